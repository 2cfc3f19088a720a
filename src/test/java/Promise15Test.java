/** Promise 15: order and limits. */
public final class Promise15Test {
    public static void main(String[] args) {
        Check.bothWays(c -> {
            noSuchEnd(c);
            rounding(c);
            whatASynBrings(c);
            Wire x = new Wire();
            for (int i = 0; i < 16; i++) {
                x.forge(0, 1, 2, 1, 1, 0, 0);
            }
            c.due("forge: REFUSED before FULL", x.forge(0, 65536, 2, 1, 1, 0, 0), -1);
            c.due("forge: FULL", x.forge(0, 65535, 2, 1, 1, 0, 0), -2);
            c.due("twice: REFUSED before FULL", x.twice(0, 16), -1);
            c.due("twice: FULL", x.twice(0, 15), -2);
        });
    }

    private static void noSuchEnd(Check c) {
        int[] ends = {-1, 2, Integer.MIN_VALUE, Integer.MAX_VALUE};
        Wire x = Check.inState(4);
        for (int e : ends) {
            c.due("open", x.open(e, true, 1), -1);
            c.due("write", x.write(e, 1, 1), -1);
            c.due("read", x.read(e, 1), -1);
            c.due("close", x.close(e), -1);
            c.due("abort", x.abort(e), -1);
            c.due("deliver", x.deliver(e, 0), -1);
            c.due("drop", x.drop(e, 0), -1);
            c.due("twice", x.twice(e, 0), -1);
            c.due("forge", x.forge(e, 1, 2, 1, 1, 0, 0), -1);
            c.due("state", x.state(e), -1);
            c.due("info", x.info(e, 0), -1);
            c.due("wire", x.wire(e, 0, 0), -1);
            c.due("wire, what -1", x.wire(e, 0, -1), -1);
        }
    }

    private static void rounding(Check c) {
        // 64 / PEAK: HALF is 8 and PEAK 8 after RETRY, then 16, 20 (64 / 16), 23 (64 / 20 is 3), 25, 27, ..
        Wire x = Check.inState(4);
        x.write(0, 1, 8);
        x.write(0, 1, 8);
        x.tick(2);
        int[] peaks = {8 + 8, 16 + 4, 20 + 3, 23 + 2, 25 + 2};
        for (int i = 0; i < peaks.length; i++) {
            Check.arrives(x, 500, 2, 102 + i, 24, 0, 0);
            c.infos("PEAK", x, 0, Check.PEAK, peaks[i]);
        }
        // S 48, V 12; then R 1: D = 1 - 6, S 43, V 12 + 5 - 3; then R 0: D = 0 - 5, S 38, V 14 + 5 - 3.
        x = Check.slow();
        x.write(0, 1, 1);
        x.tick(1);
        Check.arrives(x, 500, 2, 102, 24, 0, 0);
        c.infos("S / 8 is 5", x, 0, Check.RTO, 5 + 14);
        x.write(0, 1, 1);
        Check.arrives(x, 500, 2, 103, 24, 0, 0);
        c.infos("S / 8 is 4", x, 0, Check.RTO, 4 + 16);
        halfOfAnOddOffset(c);
    }

    private static void halfOfAnOddOffset(Check c) {
        Wire x = Check.inState(4);
        x.write(0, 1, 8);
        Check.arrives(x, 500, 2, 109, 24, 0, 0);
        for (int i = 0; i < 3; i++) {
            x.write(0, 1, 8);
        }
        c.infos("24 are on their way", x, 0, Check.PEAK, 24, Check.UNA, 109, Check.NXT, 133);
        Check.arrives(x, 500, 2, 114, 24, 0, 0);
        c.infos("19 are", x, 0, Check.UNA, 114, Check.NXT, 133);
        for (int i = 0; i < 3; i++) {
            Check.arrives(x, 500, 2, 114, 24, 0, 0);
        }
        c.infos("half of 19", x, 0, Check.HALF, 9, Check.PEAK, 33);
    }

    private static void whatASynBrings(Check c) {
        Wire x = Check.inState(2);
        Check.arrives(x, 499, 7, 101, 24, 8, 1);
        c.due("SYN_SENT", x.state(0), 4);
        c.infos("nothing of its bytes and its FIN", x, 0, Check.RCV, 500, Check.UNREAD, 0, Check.HELD, 0);
        x = Check.inState(2);
        Check.arrives(x, 499, 5, 0, 24, 8, 1);
        c.due("SYN_SENT, without ACK", x.state(0), 3);
        c.infos("nothing of its bytes and its FIN", x, 0, Check.RCV, 500, Check.UNREAD, 0, Check.HELD, 0);
        x = Check.inState(1);
        Check.arrives(x, 499, 5, 0, 24, 8, 1);
        c.due("LISTEN", x.state(0), 3);
        c.infos("nothing of its bytes and its FIN", x, 0, Check.RCV, 500, Check.UNREAD, 0, Check.HELD, 0);
    }
}
