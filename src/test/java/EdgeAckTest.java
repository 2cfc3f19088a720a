/** The edges of step (5) of A SEGMENT ARRIVES: an ACK that is too old, too new, or new. */
public final class EdgeAckTest {
    private static final int SYN = 1, ACK = 2, FIN = 4, RST = 8;

    public static void main(String[] args) {
        Check.bothWays(c -> {
            inSynReceived(c);
            aboveMax(c);
            notAboveMax(c);
            unaAndNxt(c);
            windowLess(c);
            tries(c);
            measured(c);
            peakIsHalf(c);
            peakGrows(c);
            same(c);
            retry(c);
            theFin(c);
            theLastAck(c);
        });
    }

    private static void inSynReceived(Check c) {
        c.says("(5) Let a be the offset of ACK from UNA. In SYN_RECEIVED, if a is not 1, a RST with SEQ its ACK is sent, and "
            + "that is all; else state 4.");
        int[] acks = {100, 102, 99, 0, 65535, 100 + 32767, 100 + 32768};
        for (int ack : acks) {
            Wire x = Check.inState(3);
            String before = Check.picture(x);
            c.due("ACK " + ack, Check.arrives(x, 500, ACK | FIN, ack, 5, 8, 0), 1);
            c.segment("ACK " + ack, x, 0, 0, Check.head(ack, RST, 0, 0));
            x.drop(0, 0);
            c.unchanged("ACK " + ack, x, before);
        }
        Wire x = Check.inState(3);
        c.due("a is 1: its bytes are taken, and the ACK for them waits", Check.arrives(x, 500, ACK, 101, 5, 8, 0), 0);
        c.due("ESTABLISHED", x.state(0), 4);
        c.infos("as with any new ACK", x, 0, Check.UNA, 101, Check.NXT, 101, Check.UNREAD, 8, Check.WND, 5, Check.WAITS, 1,
            Check.PEAK, 24, Check.RETRY, -1, Check.RTO, 2);
        x = Check.inState(3);
        c.due("a is 1, with a FIN", Check.arrives(x, 500, ACK | FIN, 101, 5, 0, 0), 1);
        c.due("CLOSE_WAIT", x.state(0), 7);
    }

    private static void aboveMax(Check c) {
        c.says("If a is above the offset of MAX from UNA, an ACK is sent, and that is all.");
        int[] sizes = {0, 1, 8};
        for (int n : sizes) {
            Wire x = Check.inState(4);
            if (n > 0) {
                Check.write(x, n);
            }
            Check.clear(x, 0);
            String before = Check.picture(x);
            int max = 101 + n;
            c.due("MAX + 1", Check.arrives(x, 500, ACK | FIN, max + 1, 5, 8, 0), 1);
            c.segment("an ACK", x, 0, 0, Check.head(max, ACK, 500, 24));
            x.drop(0, 0);
            c.unchanged("MAX + 1", x, before);
            c.due("a is 32767", Check.arrives(x, 500, ACK, 101 + 32767, 5, 8, 0), 1);
            x.drop(0, 0);
            c.unchanged("a is 32767", x, before);
        }
        Wire x = Check.inState(5);
        c.due("behind the FIN", Check.acks(x, 103, 24), 1);
        c.due("FIN_WAIT_1", x.state(0), 5);
    }

    private static void notAboveMax(Check c) {
        c.says("If a is above the offset of MAX from UNA, an ACK is sent, and that is all.");
        Wire x = Check.inState(4);
        Check.write(x, 8);
        c.due("MAX", Check.acks(x, 109, 24), 0);
        c.infos("all is acknowledged", x, 0, Check.UNA, 109);
        x = Check.inState(4);
        Check.write(x, 8, 8);
        x.tick(2);
        c.infos("NXT is before MAX", x, 0, Check.NXT, 109);
        Check.acks(x, 117, 24);
        c.infos("it is MAX that counts", x, 0, Check.UNA, 117);
        // An old one isn't above, so what it brings is taken.
        x = Check.inState(4);
        c.due("a is -1", Check.arrives(x, 500, ACK, 100, 5, 1, 0), 0);
        c.infos("its byte is taken, its window not", x, 0, Check.UNREAD, 1, Check.WND, 24, Check.UNA, 101, Check.PEAK, 16);
    }

    private static void unaAndNxt(Check c) {
        c.says("If a > 0: bytes before ACK are no more kept, UNA is ACK; NXT too, if it was before it");
        Wire x = Check.inState(4);
        Check.write(x, 8, 8);
        Check.acks(x, 102, 16);
        c.infos("one", x, 0, Check.KEPT, 15, Check.UNA, 102, Check.NXT, 117);
        Check.acks(x, 116, 16);
        c.infos("all but one", x, 0, Check.KEPT, 1, Check.UNA, 116, Check.NXT, 117);
        Check.acks(x, 117, 16);
        c.infos("all", x, 0, Check.KEPT, 0, Check.UNA, 117, Check.NXT, 117);
        x = Check.inState(4);
        x.write(0, 0x0807060504030201L, 8);
        x.write(0, 0x100F0E0D0C0B0A09L, 8);
        x.tick(2);
        c.infos("NXT went back", x, 0, Check.NXT, 109);
        Check.clear(x, 0);
        c.due("ACK 112", Check.acks(x, 112, 24), 1);
        c.segment("NXT was before it: what is behind goes", x, 0, 0, Check.head(112, ACK, 500, 24), 12, 13, 14, 15, 16);
        c.infos("NXT", x, 0, Check.UNA, 112, Check.NXT, 117, Check.KEPT, 5);
        x = Check.inState(4);
        Check.write(x, 8, 8);
        x.tick(2);
        Check.clear(x, 0);
        Check.acks(x, 110, 24);
        c.due("NXT was just before it", x.wire(0, 0, 0), 110);
        c.infos("NXT", x, 0, Check.UNA, 110, Check.NXT, 117);
        x = Check.inState(4);
        Check.write(x, 8, 8);
        x.tick(2);
        Check.acks(x, 101, 8);
        Check.clear(x, 0);
        Check.acks(x, 108, 8);
        c.infos("NXT was not before it", x, 0, Check.UNA, 108, Check.NXT, 109);
    }

    /** 16 bytes on their way and WND set by a segment with a later SEQ, so that what comes next doesn't set it. */
    private static Wire onTheirWay(int window) {
        Wire x = Check.inState(4);
        Check.write(x, 8, 8);
        Check.arrives(x, 510, ACK, 101, window, 0, 0);
        return x;
    }

    private static void windowLess(Check c) {
        c.says("WND is less by a, but not below 0");
        int[][] rows = {{24, 1, 23}, {10, 4, 6}, {10, 9, 1}, {10, 10, 0}, {10, 11, 0}, {0, 1, 0}, {15, 16, 0}, {16, 16, 0},
            {17, 16, 1}};
        for (int[] r : rows) {
            Wire x = onTheirWay(r[0]);
            c.infos("WND", x, 0, Check.WND, r[0]);
            Check.acks(x, 101 + r[1], 20);
            c.infos("WND " + r[0] + " less by " + r[1], x, 0, Check.WND, r[2], Check.UNA, 101 + r[1]);
        }
        Wire x = onTheirWay(10);
        Check.acks(x, 101, 20);
        c.infos("a is 0", x, 0, Check.WND, 10);
    }

    private static void tries(Check c) {
        c.says("TRIES are 0");
        Wire x = Check.inState(4);
        Check.write(x, 8);
        x.tick(2);
        x.tick(4);
        c.infos("twice", x, 0, Check.TRIES, 2);
        Check.acks(x, 101, 24);
        c.infos("a is 0", x, 0, Check.TRIES, 2);
        Check.acks(x, 100, 24);
        c.infos("a is -1", x, 0, Check.TRIES, 2);
        Check.acks(x, 102, 24);
        c.infos("a is 1", x, 0, Check.TRIES, 0);
    }

    private static void measured(Check c) {
        c.says("if a number before ACK is TIMED: it is MEASURED");
        Wire x = Check.slow();
        Check.write(x, 8);
        x.tick(5);
        Check.acks(x, 101, 24);
        c.infos("101 is TIMED, ACK 101", x, 0, Check.RTO, 18);
        Check.acks(x, 102, 24);
        c.infos("101 is TIMED, ACK 102, R 5", x, 0, Check.RTO, 15);
        // Three ACKs that are the same: nothing is TIMED, and PEAK 32 lets 8 more go.
        x = Check.slow();
        Check.write(x, 8);
        Check.acks(x, 101, 24);
        Check.acks(x, 101, 24);
        Check.acks(x, 101, 24);
        Check.write(x, 8);
        x.tick(5);
        Check.acks(x, 109, 24);
        c.infos("109 is TIMED, ACK 109", x, 0, Check.RTO, 18);
        x.tick(2);
        Check.acks(x, 110, 24);
        // R is 7: D 1, S 49, V 12 + 1 - 3.
        c.infos("109 is TIMED, ACK 110", x, 0, Check.RTO, 16);
    }

    private static void peakIsHalf(Check c) {
        c.says("if SAME is 3 or more PEAK is HALF, else it grows by 8 if below HALF");
        int[] peaks = {24, 24, 24, 8, 8, 8};
        for (int same = 0; same < peaks.length; same++) {
            Wire x = Check.inState(4);
            Check.write(x, 8);
            for (int i = 0; i < same; i++) {
                Check.acks(x, 101, 24);
            }
            Check.acks(x, 102, 24);
            c.infos("SAME " + same, x, 0, Check.PEAK, peaks[same], Check.HALF, same < 3 ? 64 : 8);
        }
    }

    private static void peakGrows(Check c) {
        c.says("else by 64 / PEAK, at most to 64");
        Wire x = Check.inState(4);
        int[] peaks = {24, 32, 40, 48, 56, 64, 64};
        for (int i = 0; i < peaks.length; i++) {
            Check.write(x, 1);
            Check.acks(x, 102 + i, 24);
            c.infos("by 8 below a HALF of 64, then no more", x, 0, Check.PEAK, peaks[i]);
        }
        x = Check.inState(4);
        Check.write(x, 8, 8);
        x.tick(2);
        int[] slower = {8 + 8, 16 + 4, 20 + 3, 23 + 2, 25 + 2, 27 + 2, 29 + 2, 31 + 2, 33 + 1, 34 + 1};
        for (int i = 0; i < slower.length; i++) {
            Check.acks(x, 102 + i, 24);
            c.infos("by 64 / PEAK from a HALF of 8 on", x, 0, Check.PEAK, slower[i]);
        }
        // HALF is 9 (half of 19), and so is PEAK: what is HALF isn't below it.
        x = nineteen();
        Check.acks(x, 115, 24);
        c.infos("HALF", x, 0, Check.PEAK, 9, Check.HALF, 9);
        Check.acks(x, 116, 24);
        c.infos("by 64 / 9", x, 0, Check.PEAK, 16);
    }

    /** 19 bytes from 114 on are on their way, and three ACKs were the same. */
    static Wire nineteen() {
        Wire x = Check.inState(4);
        Check.write(x, 8);
        Check.acks(x, 109, 24);
        Check.write(x, 8, 8, 8);
        Check.acks(x, 114, 24);
        Check.acks(x, 114, 24);
        Check.acks(x, 114, 24);
        Check.acks(x, 114, 24);
        return x;
    }

    private static void same(Check c) {
        c.says("SAME is 0");
        Wire x = Check.inState(4);
        Check.write(x, 8);
        Check.acks(x, 101, 24);
        Check.acks(x, 101, 24);
        Check.acks(x, 102, 24);
        c.due("1", Check.acks(x, 102, 24), 0);
        c.due("2", Check.acks(x, 102, 24), 0);
        c.due("3", Check.acks(x, 102, 24), 1);
        c.due("4", Check.acks(x, 102, 24), 0);
        Check.acks(x, 103, 24);
        c.infos("PEAK is HALF", x, 0, Check.PEAK, 8);
        Check.acks(x, 104, 24);
        c.infos("and grows then", x, 0, Check.PEAK, 16);
    }

    private static void retry(Check c) {
        c.says("RETRY is set to now + RTO, or not set if UNA is MAX.");
        Wire x = Check.slow();
        Check.write(x, 8, 8);
        x.tick(5);
        c.infos("as it was", x, 0, Check.RETRY, 13);
        Check.acks(x, 101, 24);
        c.infos("a is 0: as it was", x, 0, Check.RETRY, 13);
        Check.acks(x, 102, 24);
        c.infos("a is 1: by the RTO that was just measured", x, 0, Check.RETRY, 15);
        x.tick(2);
        Check.acks(x, 116, 24);
        c.infos("MAX - 1", x, 0, Check.RETRY, 15);
        Check.acks(x, 117, 24);
        c.infos("MAX", x, 0, Check.RETRY, -1);
        c.due("nothing is sent again", x.tick(1000), 0);
    }

    private static void theFin(Check c) {
        c.says("If the FIN is acknowledged: state 5 becomes 6, 8 becomes 10 (WAIT is now + 20)");
        Wire x = Check.inState(4);
        Check.write(x, 8);
        x.close(0);
        Check.acks(x, 109, 24);
        c.due("all but the FIN", x.state(0), 5);
        Check.acks(x, 110, 24);
        c.due("the FIN", x.state(0), 6);
        c.infos("nothing is to be sent", x, 0, Check.RETRY, -1, Check.UNA, 110, Check.NXT, 110);
        x = Check.inState(4);
        Check.write(x, 8);
        x.close(0);
        Check.arrives(x, 500, FIN | ACK, 109, 24, 0, 0);
        c.due("all but the FIN", x.state(0), 8);
        x.tick(1);
        Check.arrives(x, 501, ACK, 110, 24, 0, 0);
        c.due("the FIN", x.state(0), 10);
        x.tick(19);
        c.due("19 ticks later", x.state(0), 10);
        x.tick(1);
        c.due("20 ticks later", x.state(0), 0);
        c.infos("no error", x, 0, Check.ERROR, 0);
        x = Check.inState(8);
        c.due("8 becomes 10, and its byte is answered", Check.arrives(x, 501, ACK, 102, 24, 1, 0), 1);
        c.due("TIME_WAIT", x.state(0), 10);
    }

    private static void theLastAck(Check c) {
        c.says("in 9 the end is CLOSED and that is all.");
        Wire x = Check.inState(7);
        Check.write(x, 8);
        x.close(0);
        Check.arrives(x, 501, ACK, 109, 24, 0, 0);
        c.due("all but the FIN", x.state(0), 9);
        Check.clear(x, 0);
        c.due("the FIN, with a byte that nobody answers", Check.arrives(x, 501, ACK, 110, 24, 1, 0), 0);
        c.due("CLOSED", x.state(0), 0);
        c.infos("no error, nothing is set", x, 0, Check.ERROR, 0, Check.RETRY, -1, Check.WAITS, 0);
        c.due("nothing is sent", x.tick(1000), 0);
    }
}
