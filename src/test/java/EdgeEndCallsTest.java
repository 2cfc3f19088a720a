/** The edges of promises 1 to 6: the calls of an end. */
public final class EdgeEndCallsTest {
    private static final int SYN = 1, ACK = 2, FIN = 4, RST = 8;
    private static final int[] NO_ENDS = {-1, 2, 3, 16, Integer.MIN_VALUE, Integer.MAX_VALUE};

    public static void main(String[] args) {
        Check.bothWays(c -> {
            aNewObject(c);
            openActive(c);
            openPassive(c);
            openAsAtFirst(c);
            openRefused(c);
            writeLowestFirst(c);
            writeStates(c);
            writeAsFarAs(c);
            writeThenFlow(c);
            writeRefused(c);
            readUpTo(c);
            readNone(c);
            readTellsTheWindow(c);
            readTellsNoWindow(c);
            readRefused(c);
            close(c);
            closeRefused(c);
            abort(c);
            abortRefused(c);
        });
    }

    private static void aNewObject(Check c) {
        c.says("Both ends are CLOSED, the link empty, time 0.");
        Wire x = new Wire();
        for (int end = 0; end < 2; end++) {
            c.due("state", x.state(end), 0);
            c.due("row", x.wire(end, 0, -1), 0);
            for (int what = 0; what <= 13; what++) {
                c.due("info " + what, x.info(end, what), what == 10 ? -1 : 0);
            }
        }
        c.due("nothing is set", x.tick(1000), 0);
    }

    private static void openActive(Check c) {
        c.says("active: SYN_SENT, UNA, NXT and MAX are ISS, the SYN is sent, NXT is behind");
        int[] isses = {0, 1, 32767, 32768, 65534, 65535};
        for (int iss : isses) {
            for (int end = 0; end < 2; end++) {
                Wire x = new Wire();
                c.due("open", x.open(end, true, iss), 2);
                c.due("state", x.state(end), 2);
                c.segment("the SYN", x, end, 0, Check.head(iss, SYN, 0, 24));
                c.due("alone", x.wire(end, 0, -1), 1);
                c.infos("numbers", x, end, Check.UNA, iss, Check.NXT, iss + 1 & 65535, Check.RETRY, 8);
                c.due("the other end", x.state(1 - end), 0);
                c.due("its row", x.wire(1 - end, 0, -1), 0);
            }
        }
        Wire x = new Wire();
        x.open(0, true, 65535);
        Check.arrives(x, 499, SYN, 0, 24, 0, 0);
        c.due("MAX is behind the SYN", Check.max(x), 0);
    }

    private static void openPassive(Check c) {
        c.says("else LISTEN. The state.");
        int[] isses = {0, 65535};
        for (int iss : isses) {
            Wire x = new Wire();
            c.due("open", x.open(0, false, iss), 1);
            c.due("state", x.state(0), 1);
            c.due("nothing is sent", Check.row(x), 0);
            c.due("nothing is set", x.tick(1000), 0);
            Check.arrives(x, 7, SYN, 0, 24, 0, 0);
            c.segment("its ISS", x, 0, 0, Check.head(iss, SYN | ACK, 8, 24));
        }
    }

    private static void openAsAtFirst(Check c) {
        c.says("A CLOSED end begins, with all as at first but the link and the time");
        for (int how = 0; how < 2; how++) {
            Wire x = Check.slow();
            Check.write(x, 8, 8, 8);
            x.tick(18);
            Check.arrives(x, 500, ACK, 101, 5, 3, 1);
            Check.arrives(x, 510, FIN | ACK, 101, 7, 2, 1);
            Check.arrives(x, 503, RST, 0, 0, 0, 0);
            c.infos("before", x, 0, Check.ERROR, 1, Check.UNREAD, 3);
            int row = Check.row(x);
            x.forge(1, 9, ACK, 9, 9, 0, 0);
            c.due("open", x.open(0, how == 0, 9), 2 - how);
            c.infos("as at first", x, 0, Check.ERROR, 0, Check.KEPT, 0, Check.UNREAD, 0, Check.WND, 0, Check.RCV, 0);
            c.due("but the link", Check.row(x), row + 1 - how);
            c.due("but the link", x.wire(1, 0, 0), 9);
            x.drop(1, 0);
            Check.clear(x, 0);
            if (how == 0) {
                x.tick(3);
                Check.arrives(x, 499, SYN | ACK, 10, 24, 0, 0);
                c.infos("S and V, too, R 3", x, 0, Check.RTO, 9, Check.PEAK, 16, Check.HALF, 64, Check.TRIES, 0, Check.HELD, 0,
                    Check.UNA, 10, Check.NXT, 10);
            } else {
                Check.arrives(x, 499, SYN, 0, 24, 0, 0);
                c.infos("all of it", x, 0, Check.RTO, 8, Check.PEAK, 16, Check.HALF, 64, Check.TRIES, 0, Check.HELD, 0,
                    Check.UNA, 9, Check.NXT, 10, Check.RETRY, 8);
            }
        }
    }

    private static void openRefused(Check c) {
        c.says("REFUSED if it is not CLOSED, there is no such end, or iss is not 0 .. 65535.");
        for (int s = 1; s <= 10; s++) {
            Wire x = Check.inState(s);
            String before = Check.picture(x);
            c.due("active in state " + s, x.open(0, true, 9), -1);
            c.due("passive in state " + s, x.open(0, false, 9), -1);
            c.unchanged("open in state " + s, x, before);
        }
        Wire x = new Wire();
        String before = Check.picture(x);
        int[] isses = {-1, 65536, -65536, Integer.MIN_VALUE, Integer.MAX_VALUE};
        for (int iss : isses) {
            c.due("iss " + iss, x.open(0, true, iss), -1);
            c.due("iss " + iss, x.open(0, false, iss), -1);
        }
        for (int end : NO_ENDS) {
            c.due("end " + end, x.open(end, true, 9), -1);
            c.due("end " + end, x.open(end, false, 9), -1);
        }
        c.unchanged("open", x, before);
    }

    private static void writeLowestFirst(Check c) {
        c.says("Writes the n lowest bytes of bytes (the lowest first)");
        int[] all = {0xEF, 0xCD, 0xAB, 0x89, 0x00, 0x45, 0x80, 0xFF};
        for (int n = 1; n <= 8; n++) {
            Wire x = Check.inState(4);
            c.due("how many", x.write(0, 0xFF80450089ABCDEFL, n), n);
            int[] due = new int[n];
            System.arraycopy(all, 0, due, 0, n);
            c.segment(n + " bytes", x, 0, 0, Check.head(101, ACK, 500, 24), due);
        }
        long[] edges = {0, -1, Long.MIN_VALUE, Long.MAX_VALUE};
        int[] first = {0, 255, 0, 255};
        int[] last = {0, 255, 128, 127};
        for (int i = 0; i < 4; i++) {
            Wire x = Check.inState(4);
            x.write(0, edges[i], 8);
            c.due("the first", x.wire(0, 0, 5), first[i]);
            c.due("the last", x.wire(0, 0, 12), last[i]);
        }
    }

    private static void writeStates(Check c) {
        c.says("in states 2, 3, 4, 7, as far as 32 are kept: how many");
        int[] states = {2, 3, 4, 7};
        for (int s : states) {
            Wire x = Check.inState(s);
            c.due("in state " + s, x.write(0, 1, 1), 1);
            c.due("in state " + s, x.write(0, 1, 8), 8);
            c.infos("kept in state " + s, x, 0, Check.KEPT, 9);
        }
    }

    private static void writeAsFarAs(Check c) {
        c.says("in states 2, 3, 4, 7, as far as 32 are kept: how many");
        int[][] rows = {{24, 8, 8}, {25, 8, 7}, {31, 8, 1}, {31, 1, 1}, {32, 8, 0}, {32, 1, 0}};
        for (int[] r : rows) {
            Wire x = Check.inState(2);
            for (int i = 0; i < r[0]; i++) {
                x.write(0, 9, 1);
            }
            c.due(r[1] + " to " + r[0], x.write(0, 0x0807060504030201L, r[1]), r[2]);
            c.infos("kept", x, 0, Check.KEPT, r[0] + r[2]);
        }
        // The first ones of the 8 are those that were taken.
        Wire x = Check.inState(2);
        Check.write(x, 8, 8, 8, 6);
        c.due("2 of 8", x.write(0, 0x0807060504030201L, 8), 2);
        Check.arrives(x, 499, SYN | ACK, 101, 24, 0, 0);
        Check.acks(x, 117, 24);
        c.segment("the last ones", x, 0, 4, Check.head(125, ACK, 500, 24), 1, 2, 3, 4, 5, 6, 1, 2);
    }

    private static void writeThenFlow(Check c) {
        c.says("as far as 32 are kept: how many; then FLOW.");
        Wire x = Check.inState(4);
        Check.write(x, 1);
        c.due("at once", Check.row(x), 1);
        // Nothing more is kept, but FLOW comes even so: with a window of 0 RETRY would be set.
        x = Check.inState(2);
        Check.write(x, 8, 8, 8, 8);
        Check.arrives(x, 499, SYN | ACK, 101, 24, 0, 0);
        c.due("no byte", x.write(0, 1, 8), 0);
        c.infos("as far as PEAK goes", x, 0, Check.NXT, 117);
    }

    private static void writeRefused(Check c) {
        c.says("REFUSED in other states, no such end, or n not 1 .. 8.");
        int[] states = {0, 1, 5, 6, 8, 9, 10};
        for (int s : states) {
            Wire x = Check.inState(s);
            String before = Check.picture(x);
            c.due("in state " + s, x.write(0, 1, 1), -1);
            c.due("in state " + s, x.write(0, 1, 8), -1);
            c.unchanged("write in state " + s, x, before);
        }
        int[] good = {2, 3, 4, 7};
        int[] sizes = {0, 9, -1, Integer.MIN_VALUE, Integer.MAX_VALUE};
        for (int s : good) {
            Wire x = Check.inState(s);
            String before = Check.picture(x);
            for (int n : sizes) {
                c.due("n " + n, x.write(0, 1, n), -1);
            }
            for (int end : NO_ENDS) {
                c.due("end " + end, x.write(end, 1, 1), -1);
            }
            c.unchanged("write in state " + s, x, before);
        }
        Wire x = Check.inState(2);
        Check.write(x, 8, 8, 8, 8);
        c.due("n 9 where nothing more is kept", x.write(0, 1, 9), -1);
    }

    private static void readUpTo(Check c) {
        c.says("Takes up to n (1 .. 7) unread bytes: their number * 2^56, and the first one the lowest byte.");
        Wire x = Check.inState(4);
        Check.arrives(x, 500, ACK, 101, 24, 8, 249);
        Check.arrives(x, 508, ACK, 101, 24, 8, 1);
        c.due("1 of 16", x.read(0, 1), (1L << 56) + 249);
        c.due("2 of 15", x.read(0, 2), (2L << 56) + 250 + (251L << 8));
        c.due("7 of 13", x.read(0, 7), (7L << 56) + 0x020100FFFEFDFCL);
        c.due("5 of 6", x.read(0, 5), (5L << 56) + 0x0706050403L);
        c.infos("one is left", x, 0, Check.UNREAD, 1);
        c.due("7 of 1", x.read(0, 7), (1L << 56) + 8);
        c.infos("none is left", x, 0, Check.UNREAD, 0);
        x = Check.inState(4);
        Check.arrives(x, 500, ACK, 101, 24, 1, 0);
        c.due("a byte 0 is not none", x.read(0, 7), 1L << 56);
    }

    private static void readNone(Check c) {
        c.says("0 if there is none, but -1 if the FIN came or the end is CLOSED.");
        int[] due = {-1, 0, 0, 0, 0, 0, 0, -1, -1, -1, -1};
        for (int s = 0; s <= 10; s++) {
            Wire x = Check.inState(s);
            String before = Check.picture(x);
            c.due("in state " + s, x.read(0, 1), due[s]);
            c.due("in state " + s, x.read(0, 7), due[s]);
            c.unchanged("read in state " + s, x, before);
        }
        Wire x = Check.unread(2);
        Check.arrives(x, 502, FIN | ACK, 101, 24, 0, 0);
        c.due("bytes before the FIN", x.read(0, 1), 1L << 56);
        c.due("bytes before the FIN", x.read(0, 1), (1L << 56) + 1);
        c.due("the FIN came", x.read(0, 1), -1);
        x = Check.unread(1);
        x.abort(0);
        c.due("bytes of a CLOSED end", x.read(0, 7), 1L << 56);
        c.due("CLOSED", x.read(0, 7), -1);
    }

    private static void readTellsTheWindow(Check c) {
        c.says("If the own window was below 8 and is not any more, in states 4, 5, 6, an ACK is sent.");
        int[][] rows = {
            // unread, read, whether an ACK is sent
            {24, 7, 0}, {23, 6, 0}, {23, 7, 1}, {17, 1, 1}, {17, 7, 1}, {18, 1, 0}, {18, 2, 1}, {16, 1, 0}, {16, 7, 0}, {1, 1, 0},
        };
        for (int[] r : rows) {
            Wire x = Check.unread(r[0]);
            x.read(0, r[1]);
            c.due(r[1] + " of " + r[0], Check.row(x), r[2]);
            if (r[2] == 1) {
                c.segment("the ACK", x, 0, 0, Check.head(101, ACK, 500 + r[0], 24 - r[0] + r[1]));
            }
        }
        Wire x = Check.unread(24);
        x.read(0, 7);
        c.due("a window of 7", Check.row(x), 0);
        x.read(0, 1);
        c.due("a window of 8", Check.row(x), 1);
        x.read(0, 1);
        c.due("a window of 9", Check.row(x), 1);
        x = Check.unread(16);
        Check.arrives(x, 516, ACK, 101, 24, 1, 1);
        x.read(0, 1);
        c.infos("an ACK that waited waits no more", x, 0, Check.WAITS, 0);
    }

    private static void readTellsNoWindow(Check c) {
        c.says("If the own window was below 8 and is not any more, in states 4, 5, 6, an ACK is sent.");
        int[] told = {0, 0, 0, 0, 1, 1, 1, 0, 0, 0, 0};
        for (int s = 4; s <= 10; s++) {
            Wire x = withUnread17(s);
            c.due("state " + s, x.state(0), s);
            c.due("read", x.read(0, 1), 1L << 56);
            c.due("told in state " + s, Check.row(x), told[s]);
        }
        Wire x = withUnread17(4);
        x.abort(0);
        Check.clear(x, 0);
        x.read(0, 1);
        c.due("told in CLOSED", Check.row(x), 0);
    }

    /** End 0 in state s of 4 .. 10 with a window of 7 and an empty link. */
    private static Wire withUnread17(int s) {
        Wire x = Check.unread(17);
        if (s == 7 || s == 9) {
            Check.arrives(x, 517, FIN | ACK, 101, 24, 0, 0);
        }
        if (s != 4 && s != 7) {
            x.close(0);
        }
        if (s == 6 || s == 10) {
            Check.arrives(x, 517, ACK, 102, 24, 0, 0);
        }
        if (s == 8 || s == 10) {
            Check.arrives(x, 517, FIN | ACK, s == 8 ? 101 : 102, 24, 0, 0);
        }
        Check.clear(x, 0);
        return x;
    }

    private static void readRefused(Check c) {
        c.says("an ACK is sent. REFUSED likewise.");
        Wire x = Check.unread(17);
        String before = Check.picture(x);
        int[] sizes = {0, 8, -1, Integer.MIN_VALUE, Integer.MAX_VALUE};
        for (int n : sizes) {
            c.due("n " + n, x.read(0, n), -1);
            c.due("n " + n + ", nothing unread", x.read(1, n), -1);
        }
        for (int end : NO_ENDS) {
            c.due("end " + end, x.read(end, 1), -1);
        }
        c.unchanged("read", x, before);
        x = Check.inState(4);
        c.due("n 8 where there is none", x.read(0, 8), -1);
        c.due("n 7 where there is none", x.read(0, 7), 0);
    }

    private static void close(Check c) {
        c.says("1 and 2 become CLOSED; 4 FIN_WAIT_1, 7 LAST_ACK, it is closed, and FLOW: the state.");
        int[] becomes = {0, 0, 0, 0, 5, 0, 0, 9};
        int[] states = {1, 2, 4, 7};
        for (int s : states) {
            Wire x = Check.inState(s);
            c.due("in state " + s, x.close(0), becomes[s]);
            c.due("the state", x.state(0), becomes[s]);
            c.due("the FIN", Check.row(x), s < 4 ? 0 : 1);
            c.infos("RETRY in state " + s, x, 0, Check.RETRY, s < 4 ? -1 : 2, Check.ERROR, 0);
        }
        Wire x = Check.inState(4);
        Check.write(x, 8, 3);
        x.close(0);
        c.due("the FIN waits for the bytes", Check.row(x), 1);
        c.due("no more is written", x.write(0, 1, 1), -1);
        x = Check.inState(2);
        x.close(0);
        c.due("nothing is set", x.tick(1000), 0);
        c.due("it may open again", x.open(0, true, 3), 2);
    }

    private static void closeRefused(Check c) {
        c.says("and FLOW: the state. REFUSED in others.");
        int[] states = {0, 3, 5, 6, 8, 9, 10};
        for (int s : states) {
            Wire x = Check.inState(s);
            String before = Check.picture(x);
            c.due("in state " + s, x.close(0), -1);
            c.unchanged("close in state " + s, x, before);
        }
        Wire x = Check.inState(4);
        String before = Check.picture(x);
        for (int end : NO_ENDS) {
            c.due("end " + end, x.close(end), -1);
        }
        c.unchanged("close", x, before);
        c.due("close", x.close(0), 5);
        c.due("close twice", x.close(0), -1);
    }

    private static void abort(Check c) {
        c.says("The end is CLOSED; in states 3 .. 9 a RST with SEQ NXT is sent: the state it had.");
        int[] nxt = {0, 0, 0, 101, 101, 102, 102, 101, 102, 102, 0};
        for (int s = 1; s <= 10; s++) {
            Wire x = Check.inState(s);
            c.due("in state " + s, x.abort(0), s);
            c.due("the state", x.state(0), 0);
            boolean tells = s >= 3 && s <= 9;
            c.due("what is sent in state " + s, Check.row(x), tells ? 1 : 0);
            if (tells) {
                c.segment("the RST in state " + s, x, 0, 0, Check.head(nxt[s], RST, 0, 0));
            }
            c.infos("no error", x, 0, Check.ERROR, 0, Check.RETRY, -1);
            c.due("nothing is set", x.tick(1000), 0);
        }
        Wire x = Check.inState(4);
        Check.write(x, 8, 8);
        x.tick(2);
        Check.clear(x, 0);
        x.abort(0);
        c.segment("NXT is before MAX", x, 0, 0, Check.head(109, RST, 0, 0));
        x = Check.inState(4);
        Check.fill(x, 16);
        c.due("in a full row", x.abort(0), 4);
        c.due("the RST is lost", x.wire(0, 15, 1), ACK);
    }

    private static void abortRefused(Check c) {
        c.says("REFUSED if it was CLOSED.");
        Wire x = new Wire();
        String before = Check.picture(x);
        c.due("CLOSED", x.abort(0), -1);
        c.due("CLOSED", x.abort(1), -1);
        c.unchanged("abort", x, before);
        x = Check.inState(4);
        before = Check.picture(x);
        for (int end : NO_ENDS) {
            c.due("end " + end, x.abort(end), -1);
        }
        c.unchanged("abort", x, before);
        x.abort(0);
        c.due("twice", x.abort(0), -1);
    }
}
