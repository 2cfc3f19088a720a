/** Promise 9: twice. */
public final class Promise09Test {
    public static void main(String[] args) {
        Check.bothWays(c -> {
            Wire x = new Wire();
            c.due("an empty row", x.twice(0, 0), -1);
            x.forge(0, 10, 2, 7, 5, 8, 1);
            x.forge(0, 20, 4, 7, 6, 0, 1);
            c.due("end -1", x.twice(-1, 0), -1);
            c.due("end 2", x.twice(2, 0), -1);
            c.due("k -1", x.twice(0, -1), -1);
            c.due("k 2 of 2", x.twice(0, 2), -1);
            c.due("the first one", x.twice(0, 0), 3);
            c.segment("it stays", x, 0, 0, Check.head(10, 2, 7, 5), 1, 2, 3, 4, 5, 6, 7, 8);
            c.segment("those behind stay", x, 0, 1, Check.head(20, 4, 0, 6));
            c.segment("it comes at the end", x, 0, 2, Check.head(10, 2, 7, 5), 1, 2, 3, 4, 5, 6, 7, 8);
            for (int i = 4; i <= 16; i++) {
                c.due("once more", x.twice(0, 1), i);
            }
            c.due("16 are there", x.twice(0, 1), StreamWire.FULL);
            c.due("REFUSED is tested before FULL", x.twice(0, 16), -1);
            c.due("REFUSED is tested before FULL", x.twice(0, -1), -1);
            c.due("the other row is not full", x.forge(1, 1, 2, 1, 1, 0, 0), 1);
            c.due("the other row is not full", x.twice(1, 0), 2);
            c.due("16 are there still", x.wire(0, 0, -1), 16);
        });
    }
}
