/** The edges of the term TIME. */
public final class EdgeTimeTest {
    private static final int SYN = 1, ACK = 2, FIN = 4;

    public static void main(String[] args) {
        Check.bothWays(c -> {
            atItsTick(c);
            triesEnd(c);
            triesEndInEachState(c);
            doubles(c);
            theSyn(c);
            half(c);
            peakSameNxt(c);
            aWindowOf0(c);
            elseFlow(c);
            aProbe(c);
            anAck(c);
            wait(c);
            allInOneTick(c);
        });
    }

    private static void atItsTick(Check c) {
        c.says("TIME. At each tick, for end 0, then 1: if RETRY is now");
        Wire x = Check.slow();
        Check.write(x, 8);
        c.due("17 ticks", x.tick(17), 0);
        c.infos("1 before", x, 0, Check.RETRY, 1, Check.TRIES, 0);
        c.due("the 18th", x.tick(1), 1);
        x = Check.connected(100, 500);
        x.write(0, 1, 1);
        x.write(1, 1, 1);
        c.due("both ends", x.tick(2), 2);
        c.infos("end 0", x, 0, Check.TRIES, 1);
        c.infos("end 1", x, 1, Check.TRIES, 1);
    }

    private static void triesEnd(Check c) {
        c.says("if UNA is not MAX: TRIES grow by 1; if they are 6 the end is CLOSED with error 2");
        Wire x = Check.inState(4);
        Check.write(x, 8);
        // RTO is 2: again at 2, 6, 14, 30 and 62; at 126 it is over.
        int[] ticks = {2, 4, 8, 16, 32};
        for (int i = 0; i < 5; i++) {
            c.due("again", x.tick(ticks[i]), 1);
            c.infos("TRIES", x, 0, Check.TRIES, i + 1, Check.ERROR, 0);
        }
        c.due("63 ticks", x.tick(63), 0);
        c.due("not yet", x.state(0), 4);
        c.due("nothing is sent", x.tick(1), 0);
        c.due("CLOSED", x.state(0), 0);
        c.infos("error 2", x, 0, Check.ERROR, 2, Check.KEPT, 0);
        // A new ACK at the fifth: six more are needed.
        x = Check.inState(4);
        Check.write(x, 8);
        x.tick(62);
        c.infos("five", x, 0, Check.TRIES, 5);
        Check.acks(x, 102, 24);
        x.tick(5 * 64);
        c.infos("five once more", x, 0, Check.TRIES, 5);
        c.due("not yet", x.state(0), 4);
        x.tick(64);
        c.due("CLOSED", x.state(0), 0);
    }

    private static void triesEndInEachState(Check c) {
        c.says("if UNA is not MAX: TRIES grow by 1; if they are 6 the end is CLOSED with error 2");
        int[] states = {2, 3, 4, 5, 7, 8, 9};
        for (int s : states) {
            Wire x = Check.inState(s);
            if (s == 4 || s == 7) {
                Check.write(x, 1);
            }
            Check.clear(x, 0);
            int end = s < 4 ? 248 : 126;
            c.due("five times in state " + s, x.tick(end - 1), 5);
            c.due("state " + s, x.state(0), s);
            c.due("the sixth in state " + s, x.tick(1), 0);
            c.due("CLOSED", x.state(0), 0);
            c.infos("error 2 in state " + s, x, 0, Check.ERROR, 2);
        }
    }

    private static void doubles(Check c) {
        c.says("else RTO doubles, at most to 64, RETRY is now + RTO, nothing is TIMED");
        Wire x = Check.slow();
        Check.write(x, 8);
        int[] rtos = {36, 64, 64, 64};
        int before = 18;
        for (int r : rtos) {
            x.tick(before);
            c.infos("after " + before, x, 0, Check.RTO, r, Check.RETRY, r);
            before = r;
        }
        x = Check.inState(2);
        int[] syns = {16, 32, 64, 64, 64};
        before = 8;
        for (int r : syns) {
            x.tick(before);
            c.infos("a SYN after " + before, x, 0, Check.RTO, r, Check.RETRY, r);
            before = r;
        }
        // S 56, V 14, then R 19: S 68, V 23; or R 20: S 69, V 24, then R 14: S 75, V 24.
        x = Check.established(100, 500, 24, 7);
        EdgeMeasuredTest.takes(x, 19);
        doublesOnce(c, x, 31, 62);
        x = Check.established(100, 500, 24, 7);
        EdgeMeasuredTest.takes(x, 20);
        doublesOnce(c, x, 32, 64);
        x = Check.established(100, 500, 24, 7);
        EdgeMeasuredTest.takes(x, 20);
        EdgeMeasuredTest.takes(x, 14);
        doublesOnce(c, x, 33, 64);
        notTimedAnyMore(c);
    }

    private static void doublesOnce(Check c, Wire x, int rto, int due) {
        c.infos("before", x, 0, Check.RTO, rto);
        Check.write(x, 1);
        x.tick(rto);
        c.infos("doubled", x, 0, Check.RTO, due, Check.RETRY, due);
    }

    private static void notTimedAnyMore(Check c) {
        Wire x = Check.slow();
        Check.write(x, 8);
        x.tick(20);
        Check.acks(x, 109, 24);
        c.infos("nothing is TIMED", x, 0, Check.RTO, 36);
        x = Check.inState(2);
        x.tick(10);
        Check.arrives(x, 499, SYN | ACK, 101, 24, 0, 0);
        c.infos("nor is the SYN", x, 0, Check.RTO, 16);
    }

    private static void theSyn(Check c) {
        c.says("and in states 2, 3 the SYN (with ACK in 3) is sent again");
        Wire x = Check.inState(2);
        Check.write(x, 8);
        c.due("in 2", x.tick(8), 1);
        c.segment("the SYN", x, 0, 0, Check.head(100, SYN, 0, 24));
        c.infos("all else stays", x, 0, Check.PEAK, 16, Check.HALF, 64, Check.UNA, 100, Check.NXT, 101);
        x = Check.inState(3);
        Check.write(x, 8);
        c.due("in 3", x.tick(8), 1);
        c.segment("the SYN", x, 0, 0, Check.head(100, SYN | ACK, 500, 24));
        c.infos("all else stays", x, 0, Check.PEAK, 16, Check.HALF, 64, Check.UNA, 100, Check.NXT, 101);
        // With a WINDOW of 0, too.
        x = Check.inState(1);
        Check.arrives(x, 499, SYN, 0, 0, 0, 0);
        x.tick(8);
        c.segment("the SYN", x, 0, 1, Check.head(100, SYN | ACK, 500, 24));
    }

    private static void half(Check c) {
        c.says("in others HALF is half of the offset of MAX from UNA, at least 8");
        int[][] rows = {{24, 12}, {19, 9}, {18, 9}, {17, 8}, {16, 8}, {15, 8}, {1, 8}};
        for (int[] r : rows) {
            Wire x = Check.inState(4);
            Check.write(x, 8);
            Check.acks(x, 109, 24);
            Check.write(x, 8, 8, 8);
            if (r[0] < 24) {
                Check.acks(x, 133 - r[0], 24);
            }
            x.tick(2);
            c.infos(r[0] + " on their way", x, 0, Check.HALF, r[1], Check.PEAK, 8, Check.TRIES, 1);
            x.tick(4);
            c.infos(r[0] + " still, though NXT went back", x, 0, Check.HALF, r[1], Check.PEAK, 8, Check.TRIES, 2);
        }
    }

    private static void peakSameNxt(Check c) {
        c.says("PEAK 8, SAME 0, NXT is UNA");
        Wire x = Check.inState(4);
        Check.write(x, 8, 8);
        Check.acks(x, 101, 24);
        Check.acks(x, 101, 24);
        x.tick(2);
        c.infos("PEAK 8, and 8 from UNA on again", x, 0, Check.PEAK, 8, Check.NXT, 109);
        c.due("SAME 1", Check.acks(x, 101, 24), 0);
        c.due("SAME 2", Check.acks(x, 101, 24), 0);
        c.due("SAME 3: the FIRST piece, and by PEAK 32 the next", Check.acks(x, 101, 24), 2);
        // With SAME 3 or more a new ACK would make PEAK HALF.
        x = Check.inState(4);
        Check.write(x, 8);
        Check.acks(x, 101, 24);
        Check.acks(x, 101, 24);
        Check.acks(x, 101, 24);
        x.tick(2);
        Check.acks(x, 102, 24);
        c.infos("PEAK grows", x, 0, Check.PEAK, 16);
    }

    private static void aWindowOf0(Check c) {
        c.says("and if WND is 0 the FIRST piece is sent (NXT stays)");
        Wire x = Check.inState(4);
        Check.write(x, 8, 8);
        Check.acks(x, 101, 0);
        Check.clear(x, 0);
        c.due("one piece", x.tick(2), 1);
        c.segment("the FIRST", x, 0, 0, Check.head(101, ACK, 500, 24), 1, 2, 3, 4, 5, 6, 7, 8);
        c.infos("NXT stays UNA", x, 0, Check.NXT, 101);
        c.due("one piece again", x.tick(4), 1);
        c.segment("no PROBE", x, 0, 1, Check.head(101, ACK, 500, 24), 1, 2, 3, 4, 5, 6, 7, 8);
        c.infos("TRIES", x, 0, Check.NXT, 101, Check.TRIES, 2);
        x = Check.inState(4);
        Check.write(x, 3, 3);
        Check.acks(x, 101, 0);
        x.tick(2);
        c.segment("only what was sent before", x, 0, 1, Check.head(101, ACK, 500, 24), 1, 2, 3);
        x = Check.inState(5);
        Check.acks(x, 101, 0);
        x.tick(2);
        c.segment("the FIN", x, 0, 0, Check.head(101, FIN | ACK, 500, 24));
        c.infos("NXT stays UNA", x, 0, Check.NXT, 101, Check.TRIES, 1);
    }

    private static void elseFlow(Check c) {
        c.says("(NXT stays), else FLOW.");
        Wire x = Check.inState(4);
        Check.write(x, 8, 8);
        Check.acks(x, 101, 1);
        Check.clear(x, 0);
        c.due("WND 1", x.tick(2), 1);
        c.segment("one byte", x, 0, 0, Check.head(101, ACK, 500, 24), 1);
        c.infos("NXT", x, 0, Check.NXT, 102);
        x = Check.inState(4);
        Check.write(x, 3, 3);
        Check.clear(x, 0);
        x.tick(2);
        c.segment("what was not sent before, too", x, 0, 0, Check.head(101, ACK, 500, 24), 1, 2, 3, 1, 2, 3);
        x = Check.inState(4);
        Check.write(x, 3);
        x.close(0);
        Check.clear(x, 0);
        c.due("the bytes and the FIN", x.tick(2), 2);
        c.segment("the FIN", x, 0, 1, Check.head(104, FIN | ACK, 500, 24));
    }

    private static void aProbe(Check c) {
        c.says("If UNA is MAX: RTO, RETRY and TIMED likewise, and a PROBE is sent: as an ACK alone, but with SEQ UNA - 1.");
        Wire x = Check.window(0);
        Check.write(x, 8);
        int[] rtos = {4, 8, 16, 32, 64, 64, 64, 64};
        int before = 2;
        for (int r : rtos) {
            Check.clear(x, 0);
            c.due("before", x.tick(before - 1), 0);
            c.due("a PROBE", x.tick(1), 1);
            c.segment("it", x, 0, 0, Check.head(100, ACK, 500, 24));
            c.infos("no TRIES", x, 0, Check.RTO, r, Check.RETRY, r, Check.TRIES, 0, Check.PEAK, 16, Check.HALF, 64,
                Check.NXT, 101, Check.UNA, 101);
            before = r;
        }
        c.due("it is not given up", x.state(0), 4);
        x = Check.window(0);
        x.close(0);
        x.tick(2);
        c.segment("for a FIN", x, 0, 0, Check.head(100, ACK, 500, 24));
        x = Check.unread(24);
        Check.arrives(x, 524, ACK, 101, 0, 0, 0);
        Check.write(x, 1);
        x.tick(2);
        c.segment("with its own window", x, 0, 0, Check.head(100, ACK, 524, 0));
    }

    private static void anAck(Check c) {
        c.says("If an ACK waits till now it is sent.");
        Wire x = Check.inState(4);
        x.tick(5);
        Check.arrives(x, 500, ACK, 101, 24, 1, 0);
        c.due("1 tick", x.tick(1), 0);
        c.due("2 ticks", x.tick(1), 1);
        c.segment("the ACK", x, 0, 0, Check.head(101, ACK, 501, 23));
        c.due("no more", x.tick(1000), 0);
    }

    private static void wait(Check c) {
        c.says("If WAIT is now, CLOSED.");
        Wire x = Check.inState(10);
        c.due("19 ticks", x.tick(19), 0);
        c.due("TIME_WAIT", x.state(0), 10);
        c.due("20 ticks", x.tick(1), 0);
        c.due("CLOSED", x.state(0), 0);
        c.infos("no error", x, 0, Check.ERROR, 0);
        c.due("nothing is sent", Check.row(x), 0);
    }

    private static void allInOneTick(Check c) {
        c.says("If an ACK waits till now it is sent.");
        Wire x = Check.inState(4);
        Check.arrives(x, 500, ACK, 101, 24, 1, 0);
        x.tick(1);
        c.infos("waits", x, 0, Check.WAITS, 1);
        c.due("in the same call", x.tick(1000), 1);
        // RETRY and the ACK that waits in one tick: the byte brings the ACK.
        x = Check.inState(4);
        Check.write(x, 1);
        Check.arrives(x, 500, ACK, 101, 24, 1, 0);
        c.due("one for both", x.tick(2), 1);
        c.due("with the bytes", x.wire(0, 1, 4), 1);
        // The end gives up in the tick in which an ACK would go.
        x = Check.inState(4);
        Check.write(x, 1);
        x.tick(124);
        Check.arrives(x, 500, ACK, 101, 24, 1, 0);
        c.infos("both are due at 126", x, 0, Check.WAITS, 1, Check.RETRY, 2);
        c.due("nothing is sent", x.tick(2), 0);
        c.due("CLOSED", x.state(0), 0);
    }
}
