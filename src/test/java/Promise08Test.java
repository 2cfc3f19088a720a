/** Promise 8: drop. */
public final class Promise08Test {
    public static void main(String[] args) {
        Check.bothWays(c -> {
            Wire x = new Wire();
            c.due("an empty row", x.drop(0, 0), -1);
            for (int i = 0; i < 3; i++) {
                x.forge(1, 10 + i, 2, 7, 5, i, 1);
            }
            c.due("end -1", x.drop(-1, 0), -1);
            c.due("end 2", x.drop(2, 0), -1);
            c.due("k -1", x.drop(1, -1), -1);
            c.due("k 3 of 3", x.drop(1, 3), -1);
            c.due("the other row", x.drop(0, 0), -1);
            c.due("all are there", x.wire(1, 0, -1), 3);
            c.due("the middle one", x.drop(1, 1), 2);
            c.segment("the first", x, 1, 0, Check.head(10, 2, 7, 5));
            c.segment("the last", x, 1, 1, Check.head(12, 2, 7, 5), 1, 2);
            c.due("the last one", x.drop(1, 1), 1);
            c.due("the only one", x.drop(1, 0), 0);
            c.due("nothing came of them", x.wire(0, 0, -1), 0);
        });
    }
}
