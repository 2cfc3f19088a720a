/** The edges of promises 7 to 14: the calls of the link and of the time, and those that look. */
public final class EdgeLinkCallsTest {
    private static final int SYN = 1, ACK = 2, FIN = 4, RST = 8;
    private static final int[] NO_ENDS = {-1, 2, 3, 16, Integer.MIN_VALUE, Integer.MAX_VALUE};

    public static void main(String[] args) {
        Check.bothWays(c -> {
            deliver(c);
            deliverCounts(c);
            deliverRefused(c);
            drop(c);
            dropRefused(c);
            twice(c);
            twiceRefused(c);
            twiceFull(c);
            forge(c);
            forgeBytes(c);
            forgeRefused(c);
            forgeFull(c);
            tick(c);
            tickRefused(c);
            state(c);
            info(c);
            infoOfAnEndThatIsNotThere(c);
            infoRefused(c);
            wire(c);
            wireRefused(c);
            wireCounts(c);
        });
    }

    /** Rows of count segments from each end, whose SEQ is 1000, 1001, .. or 2000, 2001, ..; nothing comes of them. */
    private static Wire rows(int count) {
        Wire x = new Wire();
        for (int i = 0; i < count; i++) {
            x.forge(0, 1000 + i, RST | ACK, 3000 + i, i, i % 9, 10 * i);
            x.forge(1, 2000 + i, RST | ACK, 4000 + i, i, i % 9, 10 * i);
        }
        return x;
    }

    private static void order(Check c, String name, Wire x, int from, int... seqs) {
        c.due(name + ": how many", x.wire(from, 0, -1), seqs.length);
        for (int k = 0; k < seqs.length; k++) {
            c.due(name + ": place " + k, x.wire(from, k, 0), seqs[k]);
        }
    }

    private static void deliver(Check c) {
        c.says("Segment k (0 the first) of the row from an end arrives at the other one, and is out of the row");
        Wire x = rows(4);
        c.due("the first", x.deliver(0, 0), 0);
        order(c, "the first", x, 0, 1001, 1002, 1003);
        c.due("the last", x.deliver(0, 2), 0);
        order(c, "the last", x, 0, 1001, 1002);
        order(c, "the other row", x, 1, 2000, 2001, 2002, 2003);
        c.due("one between", x.deliver(1, 1), 0);
        order(c, "one between", x, 1, 2000, 2002, 2003);
        c.segment("those behind are whole", x, 1, 2, Check.head(2003, RST | ACK, 4003, 3), 30, 31, 32);
        x = rows(16);
        c.due("the last of 16", x.deliver(0, 15), 0);
        c.due("15 are left", x.wire(0, 0, -1), 15);
        x = new Wire();
        x.open(0, false, 100);
        x.open(1, false, 500);
        x.forge(0, 7, SYN, 0, 24, 0, 0);
        x.deliver(0, 0);
        c.due("it arrives at the other end", x.state(1), 3);
        c.due("not at its own", x.state(0), 1);
    }

    private static void deliverCounts(Check c) {
        c.says("how many were sent then (also lost ones).");
        Wire x = Check.inState(2);
        Check.write(x, 8, 8);
        c.due("3", Check.arrives(x, 499, SYN | ACK, 101, 24, 0, 0), 3);
        x = Check.inState(2);
        Check.write(x, 8, 8);
        Check.fill(x, 15);
        c.due("3, but 2 are lost", Check.arrives(x, 499, SYN | ACK, 101, 24, 0, 0), 3);
        c.due("16 are there", Check.row(x), 16);
        c.due("the ACK is the last", x.wire(0, 15, 4), 0);
        c.infos("they were sent", x, 0, Check.NXT, 117);
        x = Check.inState(4);
        Check.fill(x, 16);
        c.due("1, and it is lost", Check.arrives(x, 400, ACK, 0, 0, 0, 0), 1);
        x = new Wire();
        Check.fill(x, 16);
        c.due("a RST that is lost", Check.arrives(x, 400, ACK, 0, 0, 0, 0), 1);
        c.due("0", Check.arrives(x, 400, RST, 0, 0, 0, 0), 0);
        x = Check.inState(4);
        Check.write(x, 8);
        c.due("what was sent before does not count", Check.acks(x, 109, 24), 0);
    }

    private static void deliverRefused(Check c) {
        c.says("(also lost ones). REFUSED if there is none.");
        Wire x = rows(3);
        String before = Check.picture(x);
        int[] ks = {-1, 3, 16, Integer.MIN_VALUE, Integer.MAX_VALUE};
        for (int k : ks) {
            c.due("k " + k, x.deliver(0, k), -1);
            c.due("k " + k, x.deliver(1, k), -1);
        }
        for (int end : NO_ENDS) {
            c.due("end " + end, x.deliver(end, 0), -1);
        }
        c.unchanged("deliver", x, before);
        x = rows(16);
        c.due("16 of 16 from 0", x.deliver(0, 16), -1);
        c.due("16 of 16 from 1", x.deliver(1, 16), -1);
        x = new Wire();
        c.due("an empty row", x.deliver(0, 0), -1);
        x.forge(1, 1, RST, 0, 0, 0, 0);
        c.due("an empty row beside another", x.deliver(0, 0), -1);
    }

    private static void drop(Check c) {
        c.says("Segment k is lost: how many are left.");
        Wire x = rows(4);
        c.due("the first", x.drop(0, 0), 3);
        order(c, "the first", x, 0, 1001, 1002, 1003);
        c.due("the last", x.drop(0, 2), 2);
        order(c, "the last", x, 0, 1001, 1002);
        c.due("one of two", x.drop(0, 0), 1);
        c.due("the only one", x.drop(0, 0), 0);
        order(c, "the other row", x, 1, 2000, 2001, 2002, 2003);
        x = rows(16);
        c.due("the last of 16", x.drop(1, 15), 15);
        c.due("one between", x.drop(1, 7), 14);
        order(c, "one between", x, 1, 2000, 2001, 2002, 2003, 2004, 2005, 2006, 2008, 2009, 2010, 2011, 2012, 2013, 2014);
        x = Check.inState(1);
        x.forge(1, 499, SYN, 0, 24, 0, 0);
        x.drop(1, 0);
        c.due("nothing comes of it", x.state(0), 1);
    }

    private static void dropRefused(Check c) {
        c.says("how many are left. REFUSED likewise.");
        Wire x = rows(3);
        String before = Check.picture(x);
        int[] ks = {-1, 3, 16, Integer.MIN_VALUE, Integer.MAX_VALUE};
        for (int k : ks) {
            c.due("k " + k, x.drop(0, k), -1);
            c.due("k " + k, x.drop(1, k), -1);
        }
        for (int end : NO_ENDS) {
            c.due("end " + end, x.drop(end, 0), -1);
        }
        c.unchanged("drop", x, before);
        c.due("an empty row", new Wire().drop(0, 0), -1);
        c.due("16 of 16", rows(16).drop(0, 16), -1);
    }

    private static void twice(Check c) {
        c.says("Segment k comes once more, at the end of the row: how many there are.");
        Wire x = rows(3);
        c.due("the first", x.twice(0, 0), 4);
        order(c, "the first", x, 0, 1000, 1001, 1002, 1000);
        c.due("the one between", x.twice(0, 2), 5);
        order(c, "the one between", x, 0, 1000, 1001, 1002, 1000, 1002);
        c.segment("it is whole", x, 0, 4, Check.head(1002, RST | ACK, 3002, 2), 20, 21);
        c.due("the last", x.twice(0, 4), 6);
        order(c, "the other row", x, 1, 2000, 2001, 2002);
        x = rows(15);
        c.due("the 16th", x.twice(0, 14), 16);
        c.segment("it is whole", x, 0, 15, Check.head(1014, RST | ACK, 3014, 14), 140, 141, 142, 143, 144);
    }

    private static void twiceRefused(Check c) {
        c.says("how many there are. REFUSED likewise; FULL");
        Wire x = rows(3);
        String before = Check.picture(x);
        int[] ks = {-1, 3, 16, Integer.MIN_VALUE, Integer.MAX_VALUE};
        for (int k : ks) {
            c.due("k " + k, x.twice(0, k), -1);
            c.due("k " + k, x.twice(1, k), -1);
        }
        for (int end : NO_ENDS) {
            c.due("end " + end, x.twice(end, 0), -1);
        }
        c.unchanged("twice", x, before);
        c.due("an empty row", new Wire().twice(0, 0), -1);
    }

    private static void twiceFull(Check c) {
        c.says("REFUSED likewise; FULL if there are 16.");
        for (int from = 0; from < 2; from++) {
            Wire x = rows(16);
            String before = Check.rowPicture(x, from);
            c.due("the first of 16", x.twice(from, 0), -2);
            c.due("the last of 16", x.twice(from, 15), -2);
            c.due("the row stays", Check.rowPicture(x, from).equals(before) ? 1 : 0, 1);
        }
        Wire x = rows(16);
        x.drop(0, 0);
        c.due("15", x.twice(0, 0), 16);
        c.due("16", x.twice(0, 0), -2);
        c.due("the other row alone is full", rows(15).twice(1, 0), 16);
    }

    private static void forge(Check c) {
        c.says("comes into the row from an end: how many there are.");
        Wire x = new Wire();
        for (int i = 1; i <= 16; i++) {
            c.due("how many", x.forge(0, i, ACK, 2 * i, i, i / 2, i), i);
            c.segment("the last", x, 0, i - 1, Check.head(i, ACK, 2 * i, i), counted(i / 2, i));
        }
        c.due("the other row", x.wire(1, 0, -1), 0);
        for (int flags = 0; flags <= 15; flags++) {
            x = new Wire();
            x.forge(1, 65535, flags, 65535, 24, 0, 0);
            c.segment("flags " + flags, x, 1, 0, Check.head(65535, flags, (flags & ACK) != 0 ? 65535 : 0, 24));
        }
        x = new Wire();
        x.forge(1, 0, ACK, 0, 0, 0, 0);
        c.segment("all at their least", x, 1, 0, Check.head(0, ACK, 0, 0));
    }

    private static int[] counted(int n, int b) {
        int[] bytes = new int[n];
        for (int i = 0; i < n; i++) {
            bytes[i] = b + i & 255;
        }
        return bytes;
    }

    private static void forgeBytes(Check c) {
        c.says("A segment with n (0 .. 8) bytes b, b + 1, .. (their lowest 8 bits)");
        int[] starts = {0, 1, 248, 249, 255, 256, 1000, -1, -8, -256, Integer.MIN_VALUE, Integer.MAX_VALUE, Integer.MAX_VALUE - 3};
        for (int b : starts) {
            for (int n = 0; n <= 8; n++) {
                Wire x = new Wire();
                x.forge(0, 1, 0, 0, 0, n, b);
                c.segment("b " + b + ", n " + n, x, 0, 0, Check.head(1, 0, 0, 0), counted(n, b));
            }
        }
    }

    private static final int[][] OUT_OF_RANGE = {
        // which argument, and its value
        {0, -1}, {0, 2}, {0, Integer.MIN_VALUE}, {0, Integer.MAX_VALUE},
        {1, -1}, {1, 65536}, {1, Integer.MIN_VALUE}, {1, Integer.MAX_VALUE},
        {2, -1}, {2, 16}, {2, Integer.MIN_VALUE}, {2, Integer.MAX_VALUE},
        {3, -1}, {3, 65536}, {3, Integer.MIN_VALUE}, {3, Integer.MAX_VALUE},
        {4, -1}, {4, 25}, {4, Integer.MIN_VALUE}, {4, Integer.MAX_VALUE},
        {5, -1}, {5, 9}, {5, Integer.MIN_VALUE}, {5, Integer.MAX_VALUE},
    };

    static void outOfRange(Check c, Wire x) {
        String before = Check.picture(x);
        for (int[] w : OUT_OF_RANGE) {
            int[] a = {0, 1, ACK, 1, 1, 1, 1};
            a[w[0]] = w[1];
            c.due("argument " + w[0] + " is " + w[1], x.forge(a[0], a[1], a[2], a[3], a[4], a[5], a[6]), -1);
        }
        c.unchanged("forge", x, before);
    }

    private static void forgeRefused(Check c) {
        c.says("REFUSED if a number, flags (0 .. 15), window (0 .. 24) or n is out of its range");
        outOfRange(c, new Wire());
        outOfRange(c, rows(8));
        outOfRange(c, Check.inState(4));
    }

    private static void forgeFull(Check c) {
        c.says("is out of its range; FULL if there are 16.");
        Wire x = rows(15);
        c.due("the 16th", x.forge(0, 1, ACK, 1, 1, 1, 1), 16);
        String before = Check.rowPicture(x, 0);
        c.due("no 17th", x.forge(0, 1, ACK, 1, 1, 1, 1), -2);
        c.due("no 17th, twice", x.forge(0, 9, 0, 0, 0, 0, 0), -2);
        c.due("the row stays", Check.rowPicture(x, 0).equals(before) ? 1 : 0, 1);
        c.due("the other row has 15", x.forge(1, 1, ACK, 1, 1, 1, 1), 16);
        x.drop(0, 5);
        c.due("one was lost", x.forge(0, 77, ACK, 1, 1, 1, 1), 16);
        c.due("it is the last", x.wire(0, 15, 0), 77);
    }

    private static void tick(Check c) {
        c.says("n (1 .. 1000) ticks: how many segments were sent.");
        Wire x = Check.inState(2);
        c.due("1", x.tick(1), 0);
        c.infos("1 went by", x, 0, Check.RETRY, 7);
        c.due("7", x.tick(7), 1);
        c.due("what was sent before does not count", x.tick(1), 0);
        x = Check.window(0);
        Check.write(x, 1);
        // PROBEs at 2, 6, 14, 30 and 62, then at 126, 190, .. 958, that is 5 and 14; the next is due at 1022.
        c.due("1000 ticks, some of which lost", x.tick(1000), 19);
        c.infos("1000 went by", x, 0, Check.RETRY, 22);
        c.due("16 are there", Check.row(x), 16);
        x = new Wire();
        x.open(0, true, 1);
        x.open(1, true, 2);
        c.due("of both ends", x.tick(8), 2);
        c.due("nothing to send", new Wire().tick(1000), 0);
    }

    private static void tickRefused(Check c) {
        c.says("how many segments were sent. REFUSED likewise.");
        Wire x = Check.inState(2);
        String before = Check.picture(x);
        int[] ns = {0, -1, 1001, 2000, Integer.MIN_VALUE, Integer.MAX_VALUE};
        for (int n : ns) {
            int got = x.tick(n);
            c.due("n " + n, got, -1);
            if (got != -1) {
                return; // The next ones would take minutes.
            }
        }
        c.unchanged("tick", x, before);
    }

    private static void state(Check c) {
        c.says("The state; REFUSED if there is no such end.");
        for (int s = 0; s <= 10; s++) {
            Wire x = Check.inState(s);
            c.due("state", x.state(0), s);
            c.due("of the other end", x.state(1), 0);
            for (int end : NO_ENDS) {
                c.due("end " + end, x.state(end), -1);
            }
        }
    }

    private static void info(Check c) {
        c.says("What 0: error (0 none), 1: kept, 2: unread bytes, 3: UNA, 4: NXT, 5: RCV, 6: WND, 7: PEAK, 8: HALF, 9: RTO, "
            + "10: ticks till RETRY (-1 if it is not set), 11: 1 if an ACK waits, 12: TRIES, 13: 1 if something is held.");
        Wire x = Check.slow();
        c.infos("nothing is set", x, 0, 0, 0, 1, 0, 2, 0, 3, 101, 4, 101, 5, 500, 6, 24, 7, 16, 8, 64, 9, 18, 10, -1, 11, 0, 12, 0,
            13, 0);
        Check.write(x, 8, 8, 3);
        Check.arrives(x, 500, ACK, 101, 20, 5, 1);
        c.infos("an ACK waits", x, 0, 0, 0, 1, 19, 2, 5, 3, 101, 4, 117, 5, 505, 6, 20, 7, 16, 8, 64, 9, 18, 10, 18, 11, 1, 12, 0,
            13, 0);
        x.tick(18);
        Check.arrives(x, 507, ACK, 102, 19, 1, 1);
        c.infos("held, and once again", x, 0, 0, 0, 1, 18, 2, 5, 3, 102, 4, 117, 5, 505, 6, 19, 7, 16, 8, 8, 9, 36, 10, 36, 11, 0,
            12, 0, 13, 1);
        x = Check.inState(2);
        x.tick(7);
        c.infos("one tick till RETRY", x, 0, 10, 1);
        x.tick(1);
        c.infos("never 0", x, 0, 10, 16, 12, 1);
    }

    private static void infoOfAnEndThatIsNotThere(Check c) {
        c.says("In CLOSED and LISTEN 3 .. 13 are 0 (10: -1).");
        Wire x = Check.slow();
        Check.write(x, 8, 8, 3);
        x.tick(18);
        Check.arrives(x, 500, ACK, 102, 20, 5, 1);
        Check.arrives(x, 507, ACK, 102, 20, 1, 1);
        Check.arrives(x, 505, RST, 0, 0, 0, 0);
        c.infos("0 .. 2 are as they are", x, 0, 0, 1, 1, 0, 2, 5);
        for (int what = 3; what <= 13; what++) {
            c.due("CLOSED, what " + what, x.info(0, what), what == 10 ? -1 : 0);
        }
        x.open(0, false, 77);
        for (int what = 0; what <= 13; what++) {
            c.due("LISTEN, what " + what, x.info(0, what), what == 10 ? -1 : 0);
        }
    }

    private static void infoRefused(Check c) {
        c.says("are 0 (10: -1). REFUSED for others.");
        int[] whats = {-1, 14, 15, Integer.MIN_VALUE, Integer.MAX_VALUE};
        for (int s = 0; s <= 10; s++) {
            Wire x = Check.inState(s);
            for (int what : whats) {
                c.due("what " + what + " in state " + s, x.info(0, what), -1);
            }
            for (int end : NO_ENDS) {
                c.due("end " + end, x.info(end, 0), -1);
                c.due("end " + end, x.info(end, 10), -1);
            }
        }
    }

    private static void wire(Check c) {
        c.says("Of segment k of the row from an end what 0: SEQ, 1: flags, 2: ACK, 3: WINDOW, 4: how many bytes, "
            + "5 .. 12: those (0 .. 255)");
        Wire x = new Wire();
        x.forge(1, 300, FIN | ACK, 400, 17, 8, 250);
        x.forge(0, 301, SYN, 400, 18, 1, 128);
        int[] due = {300, FIN | ACK, 400, 17, 8, 250, 251, 252, 253, 254, 255, 0, 1};
        for (int what = 0; what <= 12; what++) {
            c.due("what " + what, x.wire(1, 0, what), due[what]);
        }
        c.due("a byte is never below 0", x.wire(0, 0, 5), 128);
        x = rows(16);
        c.due("the last of 16", x.wire(0, 15, 0), 1015);
        c.due("the last of 16", x.wire(1, 15, 0), 2015);
    }

    private static void wireRefused(Check c) {
        c.says("REFUSED if there is none, or no such byte.");
        for (int n = 0; n <= 8; n++) {
            Wire x = new Wire();
            x.forge(0, 1, ACK, 1, 1, 8, 1);
            x.drop(0, 0);
            x.forge(0, 1, ACK, 1, 1, n, 9);
            for (int what = 5; what <= 14; what++) {
                c.due("what " + what + " of " + n + " bytes", x.wire(0, 0, what), what - 5 < n ? 9 + what - 5 : -1);
            }
        }
        Wire x = rows(3);
        int[] whats = {-2, -3, 13, 14, Integer.MIN_VALUE, Integer.MAX_VALUE};
        for (int what : whats) {
            c.due("what " + what, x.wire(0, 2, what), -1);
        }
        int[] ks = {-1, 3, 16, Integer.MIN_VALUE, Integer.MAX_VALUE};
        for (int k : ks) {
            for (int what = 0; what <= 12; what++) {
                c.due("k " + k + ", what " + what, x.wire(0, k, what), -1);
                c.due("k " + k + ", what " + what, x.wire(1, k, what), -1);
            }
        }
        for (int end : NO_ENDS) {
            for (int what = -1; what <= 12; what++) {
                c.due("end " + end, x.wire(end, 0, what), -1);
            }
        }
        c.due("16 of 16", rows(16).wire(0, 16, 0), -1);
    }

    private static void wireCounts(Check c) {
        c.says("what -1: how many segments there are (any k).");
        int[] counts = {0, 1, 15, 16};
        int[] ks = {0, -1, 16, 99, Integer.MIN_VALUE, Integer.MAX_VALUE};
        for (int n : counts) {
            Wire x = rows(n);
            for (int k : ks) {
                c.due(n + ", k " + k, x.wire(0, k, -1), n);
                c.due(n + ", k " + k, x.wire(1, k, -1), n);
            }
        }
    }
}
