/** The edges of the terms SENDS, TIMED and RETRY. */
public final class EdgeSendsTest {
    private static final int SYN = 1, ACK = 2, FIN = 4, RST = 8;

    public static void main(String[] args) {
        Check.bothWays(c -> {
            ownWindow(c);
            theAckFlag(c);
            noAckWaitsAnyMore(c);
            onlyLengthCounts(c);
            timed(c);
            notTimed(c);
            max(c);
            retry(c);
            anAckAlone(c);
        });
    }

    private static void ownWindow(Check c) {
        c.says("What an end SENDS but a RST carries its own window");
        Wire x = Check.unread(24);
        Check.arrives(x, 524, SYN, 0, 0, 0, 0);
        c.segment("an ACK with a full end", x, 0, 0, Check.head(101, ACK, 524, 0));
        Check.write(x, 1);
        c.segment("a byte with a full end", x, 0, 1, Check.head(101, ACK, 524, 0), 1);
        x.close(0);
        c.due("the FIN waits for nothing", x.state(0), 5);
        c.segment("a FIN with a full end", x, 0, 2, Check.head(102, FIN | ACK, 524, 0));
        x.abort(0);
        c.segment("a RST", x, 0, 3, Check.head(103, RST, 0, 0));
        x = Check.inState(4);
        x.abort(0);
        c.segment("a RST of an empty end", x, 0, 0, Check.head(101, RST, 0, 0));
        x = Check.inState(2);
        x.tick(8);
        c.due("a SYN", x.wire(0, 0, 3), 24);
    }

    private static void theAckFlag(Check c) {
        c.says("and, but for the SYN of SYN_SENT, the flag ACK and RCV as ACK");
        Wire x = Check.inState(2);
        x.tick(8);
        c.segment("the SYN of SYN_SENT", x, 0, 0, Check.head(100, SYN, 0, 24));
        Check.arrives(x, 499, SYN, 0, 24, 0, 0);
        c.segment("the SYN of SYN_RECEIVED", x, 0, 1, Check.head(100, SYN | ACK, 500, 24));
        x.tick(16);
        c.segment("and again", x, 0, 2, Check.head(100, SYN | ACK, 500, 24));
        x = Check.inState(4);
        Check.write(x, 1);
        c.segment("a byte", x, 0, 0, Check.head(101, ACK, 500, 24), 1);
        x.close(0);
        c.segment("a FIN", x, 0, 1, Check.head(102, FIN | ACK, 500, 24));
    }

    private static Wire anAckWaits() {
        Wire x = Check.inState(4);
        Check.arrives(x, 500, ACK, 101, 24, 1, 7);
        return x;
    }

    private static void noAckWaitsAnyMore(Check c) {
        c.says("by that no ACK WAITS any more.");
        Wire x = anAckWaits();
        c.infos("it waits", x, 0, Check.WAITS, 1);
        Check.write(x, 1);
        c.infos("by a byte", x, 0, Check.WAITS, 0);
        x = anAckWaits();
        x.close(0);
        c.infos("by a FIN", x, 0, Check.WAITS, 0);
        x = anAckWaits();
        Check.arrives(x, 400, ACK, 101, 24, 0, 0);
        c.infos("by an ACK alone", x, 0, Check.WAITS, 0);
        c.due("so none is sent", x.tick(5), 0);
        x = anAckWaits();
        Check.fill(x, 16);
        Check.write(x, 1);
        c.infos("by one that is lost", x, 0, Check.WAITS, 0);
        x = Check.window(0);
        Check.write(x, 1);
        x.tick(1);
        Check.arrives(x, 500, ACK, 101, 0, 1, 7);
        c.infos("it waits", x, 0, Check.WAITS, 1);
        c.due("the PROBE goes a tick before it", x.tick(1), 1);
        c.infos("by a PROBE", x, 0, Check.WAITS, 0);
        c.due("so none is sent", x.tick(1), 0);
        x = Check.inState(4);
        Check.write(x, 8);
        Check.arrives(x, 500, ACK, 101, 24, 1, 7);
        for (int i = 0; i < 3; i++) {
            c.infos("it waits", x, 0, Check.WAITS, 1);
            Check.arrives(x, 501, ACK, 101, 24, 0, 0);
        }
        c.infos("by the FIRST piece", x, 0, Check.WAITS, 0);
    }

    private static void onlyLengthCounts(Check c) {
        c.says("If the LENGTH is above 0: if SEQ is MAX");
        Wire x = Check.slow();
        Check.arrives(x, 400, ACK, 101, 24, 0, 0);
        c.infos("an ACK alone sets no RETRY", x, 0, Check.RETRY, -1);
        x.tick(7);
        Check.write(x, 1);
        x.tick(1);
        Check.acks(x, 102, 24);
        // The byte is TIMED, R 1, not the ACK with the same SEQ: D -5, S 43, V 14.
        c.infos("nor is it TIMED", x, 0, Check.RTO, 19);
    }

    private static void timed(Check c) {
        c.says("if SEQ is MAX and nothing is TIMED, SEQ is TIMED from now on");
        Wire x = Check.slow();
        Check.write(x, 8);
        x.tick(4);
        Check.write(x, 8);
        x.tick(1);
        Check.acks(x, 117, 24);
        // R is 5: D -1, S 47, V 12 + 1 - 3.
        c.infos("the first piece was TIMED, not the second", x, 0, Check.RTO, 15);
        Check.write(x, 8);
        x.tick(9);
        Check.acks(x, 125, 24);
        // R is 9: D 4, S 51, V 10 + 4 - 2.
        c.infos("the next one is TIMED", x, 0, Check.RTO, 18);
        x = Check.slow();
        x.close(0);
        x.tick(1);
        Check.acks(x, 102, 24);
        c.infos("a FIN is TIMED, too", x, 0, Check.RTO, 19);
        x = Check.inState(1);
        Check.arrives(x, 499, SYN, 0, 24, 0, 0);
        x.tick(7);
        Check.acks(x, 101, 24);
        c.infos("and the SYN of SYN_RECEIVED, R 7", x, 0, Check.RTO, 21);
    }

    private static void notTimed(Check c) {
        c.says("if SEQ is MAX and nothing is TIMED, SEQ is TIMED from now on");
        Wire x = Check.slow();
        Check.write(x, 8);
        x.tick(18);
        c.infos("sent again", x, 0, Check.RTO, 36, Check.TRIES, 1);
        x.tick(3);
        Check.acks(x, 109, 24);
        c.infos("its SEQ was not MAX", x, 0, Check.RTO, 36);
        Check.write(x, 8);
        x.tick(5);
        Check.acks(x, 117, 24);
        c.infos("new bytes are TIMED, R 5", x, 0, Check.RTO, 15);
        x = Check.slow();
        Check.write(x, 8);
        Check.acks(x, 101, 24);
        Check.acks(x, 101, 24);
        Check.acks(x, 101, 24);
        x.tick(3);
        Check.acks(x, 109, 24);
        c.infos("nor was that of the FIRST piece", x, 0, Check.RTO, 18);
    }

    private static void max(Check c) {
        c.says("MAX is at least the number behind the segment");
        Wire x = Check.inState(4);
        Check.write(x, 8, 8);
        c.due("behind both", Check.max(x), 117);
        x.tick(2);
        c.due("the first one again does not lower it", Check.max(x), 117);
        x = Check.inState(4);
        Check.write(x, 2, 2);
        c.due("behind what was sent", Check.max(x), 103);
        x.tick(2);
        c.due("a longer piece raises it", Check.max(x), 105);
        x.close(0);
        Check.acks(x, 105, 24);
        c.due("a FIN counts 1", Check.max(x), 106);
        c.due("a SYN counts 1", Check.max(Check.inState(3)), 101);
    }

    private static void retry(Check c) {
        c.says("RETRY, if it is not set, is set to now + RTO.");
        Wire x = Check.slow();
        c.infos("not set", x, 0, Check.RETRY, -1);
        Check.write(x, 8);
        c.infos("set", x, 0, Check.RETRY, 18);
        x.tick(1);
        Check.write(x, 8);
        c.infos("it was set", x, 0, Check.RETRY, 17);
        Check.acks(x, 117, 24);
        c.infos("not set", x, 0, Check.RETRY, -1);
        x.close(0);
        // By the ACK R was 1: D -5, S 43, V 14.
        c.infos("set by a FIN", x, 0, Check.RETRY, 19);
        c.infos("set by a SYN", Check.inState(2), 0, Check.RETRY, 8);
    }

    private static void anAckAlone(Check c) {
        c.says("An ACK alone is a segment with SEQ MAX and LENGTH 0.");
        Wire x = Check.inState(4);
        Check.write(x, 8, 8);
        x.tick(2);
        c.infos("NXT is before MAX", x, 0, Check.NXT, 109);
        Check.clear(x, 0);
        Check.arrives(x, 400, ACK, 0, 0, 0, 0);
        c.segment("SEQ is MAX, not NXT", x, 0, 0, Check.head(117, ACK, 500, 24));
        x = Check.inState(5);
        Check.arrives(x, 400, ACK, 0, 0, 0, 0);
        c.segment("behind the FIN", x, 0, 0, Check.head(102, ACK, 500, 24));
    }
}
