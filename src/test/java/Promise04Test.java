/** Promise 4: read. */
public final class Promise04Test {
    public static void main(String[] args) {
        Check.bothWays(c -> {
            for (int s = 0; s <= 10; s++) {
                Wire x = Check.inState(s);
                c.due("nothing to read in state " + s, x.read(0, 7), s == 0 || s >= 7 ? -1 : 0);
            }
            Wire x = Check.inState(4);
            c.due("end -1", x.read(-1, 1), -1);
            c.due("end 2", x.read(2, 1), -1);
            Check.arrives(x, 500, 2, 101, 24, 8, 250);
            c.due("n 0", x.read(0, 0), -1);
            c.due("n 8", x.read(0, 8), -1);
            c.due("n -1", x.read(0, -1), -1);
            c.infos("nothing was taken", x, 0, Check.UNREAD, 8);
            c.due("two", x.read(0, 2), (2L << 56) + 250 + 251 * 256L);
            c.due("the most", x.read(0, 7), (6L << 56) + 0x0100FFFEFDFCL);
            c.due("none", x.read(0, 7), 0);
            theWindowOpens(c);
            afterTheFin(c);
            afterTheEnd(c);
        });
    }

    private static void theWindowOpens(Check c) {
        Wire x = Check.inState(4);
        Check.arrives(x, 500, 2, 101, 24, 8, 0);
        Check.arrives(x, 508, 2, 101, 24, 8, 8);
        Check.arrives(x, 516, 2, 101, 24, 8, 16);
        Check.clear(x, 0);
        c.infos("full", x, 0, Check.UNREAD, 24);
        x.read(0, 7);
        c.due("a window of 7 is not told", x.wire(0, 0, -1), 0);
        x.read(0, 1);
        c.due("a window of 8 is", x.wire(0, 0, -1), 1);
        c.segment("the ACK", x, 0, 0, Check.head(101, 2, 524, 8));
        x.read(0, 7);
        c.due("a wider one is not", x.wire(0, 0, -1), 1);
        for (int s = 5; s <= 10; s++) {
            Wire y = Check.inState(4);
            Check.arrives(y, 500, 2, 101, 24, 8, 0);
            Check.arrives(y, 508, 2, 101, 24, 8, 8);
            Check.arrives(y, 516, 2, 101, 24, 1, 16);
            if (s == 7 || s == 9) {
                Check.arrives(y, 517, 6, 101, 24, 0, 0);
            }
            if (s != 7) {
                y.close(0);
            }
            if (s == 6 || s == 10) {
                Check.arrives(y, 517, 2, 102, 24, 0, 0);
            }
            if (s == 8) {
                Check.arrives(y, 517, 6, 101, 24, 0, 0);
            }
            if (s == 10) {
                Check.arrives(y, 517, 6, 102, 24, 0, 0);
            }
            Check.clear(y, 0);
            c.due("state " + s, y.state(0), s);
            c.due("read in state " + s, y.read(0, 1), 1L << 56);
            c.due("told in state " + s, y.wire(0, 0, -1), s <= 6 ? 1 : 0);
        }
    }

    private static void afterTheFin(Check c) {
        Wire x = Check.inState(4);
        Check.arrives(x, 501, 6, 101, 24, 0, 0);
        c.infos("the FIN is held", x, 0, Check.HELD, 1, Check.RCV, 500);
        c.due("a held FIN did not come", x.read(0, 7), 0);
        Check.arrives(x, 500, 2, 101, 24, 1, 77);
        c.infos("and now it came", x, 0, Check.HELD, 0, Check.RCV, 502);
        c.due("the byte before it", x.read(0, 7), (1L << 56) + 77);
        c.due("behind it", x.read(0, 7), -1);
    }

    private static void afterTheEnd(Check c) {
        Wire x = Check.inState(4);
        Check.arrives(x, 500, 2, 101, 24, 8, 10);
        Check.arrives(x, 508, 2, 101, 24, 8, 18);
        Check.arrives(x, 516, 2, 101, 24, 2, 26);
        x.abort(0);
        Check.clear(x, 0);
        c.infos("unread bytes stay", x, 0, Check.UNREAD, 18);
        c.due("the first 7", x.read(0, 7), (7L << 56) + 0x100F0E0D0C0B0AL);
        c.due("a CLOSED end sends nothing", x.wire(0, 0, -1), 0);
        x.read(0, 7);
        c.due("the last 4", x.read(0, 7), (4L << 56) + 0x1B1A1918L);
        c.due("then -1", x.read(0, 7), -1);
    }
}
