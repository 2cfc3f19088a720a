/** TIME: what is sent again and when, and when an end gives up. */
public final class TimeTest {
    private static final int SYN = 1, ACK = 2, FIN = 4;

    public static void main(String[] args) {
        Check.bothWays(c -> {
            theSynAgain(c);
            theBytesAgain(c);
            givingUp(c);
            aClosedWindow(c);
            theFinAgain(c);
            moreThanBefore(c);
            endZeroFirst(c);
            aRetryBringsTheAck(c);
        });
    }

    private static void theSynAgain(Check c) {
        Wire x = new Wire();
        x.open(0, true, 100);
        c.due("before", x.tick(7), 0);
        c.due("at 8", x.tick(1), 1);
        c.segment("the SYN", x, 0, 1, Check.head(100, SYN, 0, 24));
        c.infos("PEAK and HALF stay", x, 0, Check.PEAK, 16, Check.HALF, 64, Check.NXT, 101, Check.TRIES, 1,
            Check.RTO, 16, Check.RETRY, 16);
        x = Check.inState(3);
        c.due("at 8", x.tick(8), 1);
        c.segment("SYN and ACK", x, 0, 0, Check.head(100, SYN | ACK, 500, 24));
        c.infos("state 3", x, 0, Check.NXT, 101, Check.TRIES, 1, Check.RTO, 16, Check.RETRY, 16);
    }

    private static void theBytesAgain(Check c) {
        Wire x = Check.slow();
        x.write(0, 0x0807060504030201L, 8);
        x.write(0, 0x0807060504030201L, 8);
        Check.clear(x, 0);
        c.due("before", x.tick(17), 0);
        c.due("at 18: PEAK 8 lets one go", x.tick(1), 1);
        c.segment("the first", x, 0, 0, Check.head(101, ACK, 500, 24), 1, 2, 3, 4, 5, 6, 7, 8);
        c.infos("once", x, 0, Check.TRIES, 1, Check.RTO, 36, Check.RETRY, 36, Check.PEAK, 8, Check.HALF, 8,
            Check.NXT, 109, Check.UNA, 101);
        c.due("at 54", x.tick(36), 1);
        c.infos("64 at most", x, 0, Check.TRIES, 2, Check.RTO, 64, Check.RETRY, 64);
        c.due("at 118", x.tick(64), 1);
        c.infos("64 at most", x, 0, Check.TRIES, 3, Check.RTO, 64, Check.RETRY, 64);
        Check.arrives(x, 500, ACK, 102, 24, 0, 0);
        c.infos("a new ACK", x, 0, Check.TRIES, 0, Check.RTO, 64, Check.RETRY, 64);
    }

    private static void givingUp(Check c) {
        Wire x = Check.inState(4);
        Check.arrives(x, 500, ACK, 101, 24, 2, 5);
        x.write(0, 1, 1);
        Check.arrives(x, 505, ACK, 101, 24, 2, 5);
        // RTO 2: at 2, 6, 14, 30 and 62; at 126 it is over.
        c.due("five times", x.tick(125), 5);
        c.due("still", x.state(0), 4);
        c.infos("five times", x, 0, Check.TRIES, 5, Check.RTO, 64, Check.RETRY, 1);
        c.due("nothing is sent", x.tick(1), 0);
        c.due("CLOSED", x.state(0), 0);
        c.infos("error 2", x, 0, Check.ERROR, 2, Check.KEPT, 0, Check.HELD, 0, Check.UNREAD, 2, Check.RETRY, -1);
        c.due("what came is there", x.read(0, 7), (2L << 56) + 0x0605);
        c.due("begins anew", x.open(0, false, 1), 1);
        c.infos("error 0", x, 0, Check.ERROR, 0);
    }

    /** WND 0 with bytes on their way: the FIRST piece goes, NXT stays UNA. */
    private static void aClosedWindow(Check c) {
        Wire x = Check.inState(4);
        x.write(0, 0x0807060504030201L, 8);
        x.write(0, 0x1817161514131211L, 8);
        Check.clear(x, 0);
        Check.arrives(x, 500, ACK, 101, 0, 0, 0);
        c.due("at 2", x.tick(2), 1);
        c.segment("the FIRST piece", x, 0, 0, Check.head(101, ACK, 500, 24), 1, 2, 3, 4, 5, 6, 7, 8);
        c.infos("NXT stays", x, 0, Check.NXT, 101, Check.UNA, 101, Check.TRIES, 1, Check.PEAK, 8, Check.HALF, 8);
        c.due("the window opens a bit", Check.arrives(x, 500, ACK, 101, 3, 0, 0), 1);
        c.segment("3 bytes", x, 0, 1, Check.head(101, ACK, 500, 24), 1, 2, 3);
        c.infos("NXT goes on", x, 0, Check.NXT, 104);
    }

    private static void theFinAgain(Check c) {
        int[] states = {5, 8, 9};
        for (int s : states) {
            Wire x = Check.inState(s);
            int rcv = s == 5 ? 500 : 501;
            c.due("the FIN again in state " + s, x.tick(2), 1);
            c.segment("the FIN", x, 0, 0, Check.head(101, ACK | FIN, rcv, 24));
            c.infos("behind it", x, 0, Check.NXT, 102, Check.TRIES, 1);
            Check.arrives(x, rcv, ACK, 101, 0, 0, 0);
            c.due("the FIRST piece is the FIN", x.tick(4), 1);
            c.segment("the FIN", x, 0, 1, Check.head(101, ACK | FIN, rcv, 24));
            c.infos("NXT stays", x, 0, Check.NXT, 101, Check.TRIES, 2);
            x.tick(1000);
            c.due("over", x.state(0), 0);
            c.infos("error 2", x, 0, Check.ERROR, 2);
        }
        Wire x = Check.inState(6);
        c.due("nothing to send again in FIN_WAIT_2", x.tick(1000), 0);
        c.due("which waits for ever", x.state(0), 6);
    }

    /** What was written since goes along when a short piece is sent again; MAX moves then. */
    private static void moreThanBefore(Check c) {
        Wire x = Check.inState(4);
        x.write(0, 0x0201, 2);
        x.write(0, 0x0403, 2);
        Check.clear(x, 0);
        x.tick(2);
        c.segment("all four", x, 0, 0, Check.head(101, ACK, 500, 24), 1, 2, 3, 4);
        Check.arrives(x, 400, ACK, 101, 24, 0, 0);
        c.due("MAX is behind them", x.wire(0, 1, 0), 105);
        x.tick(1);
        Check.arrives(x, 500, ACK, 105, 24, 0, 0);
        c.infos("nothing was TIMED", x, 0, Check.RTO, 4, Check.RETRY, -1, Check.UNA, 105);
    }

    /** Both ends send in the same tick; what end 0 sends is not yet there for end 1. */
    private static void endZeroFirst(Check c) {
        Wire x = Check.connected(100, 500);
        x.write(0, 1, 1);
        x.write(1, 2, 1);
        c.due("both", x.tick(2), 2);
        c.due("nothing arrives by a tick", x.info(0, Check.UNREAD) + x.info(1, Check.UNREAD), 0);
        c.due("rows", x.wire(0, 0, -1) * 10 + x.wire(1, 0, -1), 22);
    }

    private static void aRetryBringsTheAck(Check c) {
        Wire x = Check.inState(4);
        x.write(0, 1, 1);
        Check.arrives(x, 500, ACK, 101, 24, 1, 1);
        c.infos("waits", x, 0, Check.WAITS, 1, Check.RETRY, 2);
        c.due("one segment for both", x.tick(2), 1);
        c.infos("waits no more", x, 0, Check.WAITS, 0);
        c.due("the byte, and the ACK with it", x.wire(0, 1, 2), 501);
    }
}
