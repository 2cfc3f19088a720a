/** Promise 10: forge. */
public final class Promise10Test {
    public static void main(String[] args) {
        Check.bothWays(c -> {
            Wire x = new Wire();
            wrongInputs(c, x);
            c.due("nothing came", x.wire(0, 0, -1) + x.wire(1, 0, -1), 0);
            c.due("the least", x.forge(0, 0, 0, 0, 0, 0, 0), 1);
            c.due("the greatest", x.forge(0, 65535, 15, 65535, 24, 8, 252), 2);
            c.segment("the least", x, 0, 0, Check.head(0, 0, 0, 0));
            c.segment("the greatest", x, 0, 1, Check.head(65535, 15, 65535, 24), 252, 253, 254, 255, 0, 1, 2, 3);
            c.due("negative b", x.forge(0, 1, 8, 2, 3, 2, -1), 3);
            c.segment("its lowest 8 bits; ACK 0 without the flag; a RST's window stays", x, 0, 2,
                Check.head(1, 8, 0, 3), 255, 0);
            c.due("the greatest b", x.forge(0, 1, 13, 2, 3, 2, Integer.MAX_VALUE), 4);
            c.segment("it wraps", x, 0, 3, Check.head(1, 13, 0, 3), 255, 0);
            for (int i = 5; i <= 16; i++) {
                c.due("one more", x.forge(0, i, 2, 1, 1, 0, 0), i);
            }
            c.due("16 are there", x.forge(0, 1, 2, 1, 1, 0, 0), StreamWire.FULL);
            wrongInputs(c, x);
            c.due("the last one", x.wire(0, 15, 0), 16);
            c.due("the other row has room", x.forge(1, 1, 2, 1, 1, 0, 0), 1);
        });
    }

    /** In an empty and in a full row: REFUSED is tested before FULL. */
    private static void wrongInputs(Check c, Wire x) {
        int[] right = {0, 10, 2, 20, 5, 3, 1};
        int[][] wrong = {{0, -1}, {0, 2}, {1, -1}, {1, 65536}, {2, -1}, {2, 16}, {3, -1}, {3, 65536},
            {4, -1}, {4, 25}, {5, -1}, {5, 9}};
        for (int[] w : wrong) {
            int[] a = right.clone();
            a[w[0]] = w[1];
            c.due("argument " + w[0] + " is " + w[1], x.forge(a[0], a[1], a[2], a[3], a[4], a[5], a[6]), -1);
        }
        c.due("ack out of its range without the flag", x.forge(0, 1, 1, 65536, 1, 0, 0), -1);
        c.due("ack out of its range without the flag", x.forge(0, 1, 0, -1, 1, 0, 0), -1);
    }
}
