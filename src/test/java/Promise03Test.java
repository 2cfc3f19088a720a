/** Promise 3: write. */
public final class Promise03Test {
    public static void main(String[] args) {
        Check.bothWays(c -> {
            for (int s = 0; s <= 10; s++) {
                Wire x = Check.inState(s);
                boolean may = s == 2 || s == 3 || s == 4 || s == 7;
                c.due("write in state " + s, x.write(0, 5, 1), may ? 1 : -1);
                c.due("kept in state " + s, x.info(0, Check.KEPT), may ? 1 : 0);
                c.due("sent in state " + s, x.wire(0, 0, -1), s == 4 || s == 7 ? 1 : 0);
            }
            Wire x = Check.inState(4);
            c.due("end -1", x.write(-1, 1, 1), -1);
            c.due("end 2", x.write(2, 1, 1), -1);
            c.due("n 0", x.write(0, 1, 0), -1);
            c.due("n 9", x.write(0, 1, 9), -1);
            c.due("n -1", x.write(0, 1, -1), -1);
            c.due("nothing was written", x.info(0, Check.KEPT), 0);
            c.due("the lowest first", x.write(0, 0x80FF030201000102L, 8), 8);
            c.segment("eight bytes", x, 0, 0, Check.head(101, 2, 500, 24), 2, 1, 0, 1, 2, 3, 255, 128);
            x = Check.inState(4);
            c.due("only the n lowest", x.write(0, -1L << 24 | 0x030201, 3), 3);
            c.segment("three bytes", x, 0, 0, Check.head(101, 2, 500, 24), 1, 2, 3);
            asManyAsAreKept(c);
            beforeTheSynIsAnswered(c);
            aroundTheRing(c);
        });
    }

    private static void asManyAsAreKept(Check c) {
        Wire x = Check.inState(2);
        for (int i = 0; i < 4; i++) {
            c.due("seven more", x.write(0, i, 7), 7);
        }
        c.due("as far as 32 are kept", x.write(0, 1, 8), 4);
        c.due("full", x.write(0, 1, 8), 0);
        c.due("full, n wrong", x.write(0, 1, 9), -1);
        c.infos("kept", x, 0, Check.KEPT, 32);
        Check.arrives(x, 499, 3, 101, 24, 0, 0);
        c.infos("the SYN is not a byte", x, 0, Check.KEPT, 32);
        Check.arrives(x, 500, 2, 106, 24, 0, 0);
        c.infos("five are acknowledged", x, 0, Check.KEPT, 27);
        c.due("five more", x.write(0, 1, 8), 5);
    }

    private static void beforeTheSynIsAnswered(Check c) {
        Wire x = Check.inState(2);
        x.write(0, 0x04030201L, 4);
        c.due("nothing is sent in SYN_SENT", x.wire(0, 0, -1), 0);
        c.due("an ACK, then the bytes", Check.arrives(x, 499, 3, 101, 24, 0, 0), 2);
        c.segment("the ACK", x, 0, 0, Check.head(101, 2, 500, 24));
        c.segment("the bytes", x, 0, 1, Check.head(101, 2, 500, 24), 1, 2, 3, 4);
        Wire y = Check.inState(3);
        y.write(0, 9, 1);
        c.due("nothing is sent in SYN_RECEIVED", y.wire(0, 0, -1), 0);
        c.due("the byte follows", Check.arrives(y, 500, 2, 101, 24, 0, 0), 1);
        c.segment("the byte", y, 0, 0, Check.head(101, 2, 500, 24), 9);
    }

    /** More bytes than are ever kept at once, over the wrap of the numbers. */
    private static void aroundTheRing(Check c) {
        Wire x = Check.connected(65500, 65530);
        for (int i = 0; i < 20; i++) {
            long bytes = 0x0706050403020100L + 0x0808080808080808L * i;
            c.due("write " + i, x.write(0, bytes, 8), 8);
            c.due("deliver " + i, x.deliver(0, 0), 0);
            c.due("tick " + i, x.tick(2) > 0 ? 1 : 0, 1);
            Check.clear(x, 0);
            x.deliver(1, 0);
            Check.clear(x, 1);
            c.due("read " + i, x.read(1, 7), 7L << 56 | bytes & 0xFFFFFFFFFFFFFFL);
            c.due("read " + i, x.read(1, 7), 1L << 56 | bytes >>> 56);
            c.infos("number " + i, x, 0, Check.UNA, 65501 + 8 * (i + 1) & 65535, Check.KEPT, 0);
        }
    }
}
