/** The edges of the term FLOW. */
public final class EdgeFlowTest {
    private static final int SYN = 1, ACK = 2, FIN = 4;

    public static void main(String[] args) {
        Check.bothWays(c -> {
            states(c);
            closingStates(c);
            theLeast(c);
            theRoom(c);
            noRoom(c);
            smallPieces(c);
            theFinBehindTheBytes(c);
            theFinNeedsRoom(c);
            theFinOnce(c);
            aWindowOf0(c);
            nothingToProbeFor(c);
        });
    }

    private static void states(Check c) {
        c.says("FLOW, in states 4, 5, 7, 8, 9");
        Wire x = Check.inState(2);
        Check.write(x, 8);
        c.due("not in 2", Check.row(x), 0);
        Check.arrives(x, 499, SYN, 0, 24, 0, 0);
        c.due("not when 2 becomes 3", Check.row(x), 1);
        x = Check.inState(3);
        Check.write(x, 8);
        c.due("not in 3", Check.row(x), 0);
        c.infos("no RETRY but that of the SYN", x, 0, Check.RETRY, 8, Check.NXT, 101);
        Check.acks(x, 101, 24);
        c.due("when 3 becomes 4", Check.row(x), 1);
        x = Check.inState(4);
        Check.write(x, 8);
        c.due("in 4", Check.row(x), 1);
        x = Check.inState(7);
        Check.write(x, 8);
        c.due("in 7", Check.row(x), 1);
    }

    /** Bytes and the FIN wait for a window, and go when it comes. */
    private static void closingStates(Check c) {
        c.says("FLOW, in states 4, 5, 7, 8, 9");
        int[] states = {5, 8, 9};
        for (int s : states) {
            Wire x = Check.window(0);
            Check.write(x, 8);
            if (s == 9) {
                Check.arrives(x, 500, FIN | ACK, 101, 0, 0, 0);
            }
            x.close(0);
            if (s == 8) {
                Check.arrives(x, 500, FIN | ACK, 101, 0, 0, 0);
            }
            int rcv = s == 5 ? 500 : 501;
            c.due("state " + s, x.state(0), s);
            Check.clear(x, 0);
            c.due("sent in state " + s, Check.arrives(x, rcv, ACK, 101, 24, 0, 0), 2);
            c.segment("the bytes", x, 0, 0, Check.head(101, ACK, rcv, 24), 1, 2, 3, 4, 5, 6, 7, 8);
            c.segment("the FIN", x, 0, 1, Check.head(109, FIN | ACK, rcv, 24));
        }
    }

    private static void theLeast(Check c) {
        c.says("as long as there are bytes from NXT on, let n be the least of 8, their number, and room");
        Wire x = Check.inState(2);
        Check.write(x, 8, 1);
        Check.arrives(x, 499, SYN | ACK, 101, 24, 0, 0);
        c.due("8 of 9", x.wire(0, 1, 4), 8);
        c.due("and the last waits", Check.row(x), 2);
        x = Check.inState(4);
        Check.write(x, 7);
        c.due("7 of 7", x.wire(0, 0, 4), 7);
        int[] windows = {1, 5, 7};
        for (int w : windows) {
            x = Check.window(w);
            Check.write(x, 8);
            c.due("a room of " + w, x.wire(0, 0, 4), w);
            c.due("one piece", Check.row(x), 1);
            c.infos("NXT is behind it", x, 0, Check.NXT, 101 + w);
        }
        x = Check.inState(4);
        Check.write(x, 8);
        c.due("none is left: that is all", Check.row(x), 1);
    }

    private static void theRoom(Check c) {
        c.says("room = (the smaller of WND and PEAK) - (offset of NXT from UNA)");
        Wire x = Check.inState(4);
        Check.write(x, 8, 8, 8);
        c.infos("PEAK 16 is smaller than WND 24", x, 0, Check.NXT, 117);
        x = Check.window(12);
        Check.write(x, 8, 8);
        c.infos("WND 12 is smaller than PEAK 16", x, 0, Check.NXT, 109);
        x = Check.window(15);
        Check.write(x, 8, 8);
        c.infos("a room of 7 is not 8", x, 0, Check.NXT, 109);
        x = Check.window(16);
        Check.write(x, 8, 8, 8);
        c.infos("a room of 8 is", x, 0, Check.NXT, 117);
        // UNA 102, WND 23, PEAK 24, 15 on their way: a room of 8.
        x = Check.inState(4);
        Check.write(x, 8, 8, 8);
        Check.acks(x, 102, 23);
        c.infos("what is acknowledged makes room", x, 0, Check.NXT, 125);
        x = Check.inState(4);
        Check.write(x, 8, 8, 8);
        Check.acks(x, 102, 22);
        c.infos("but not for 8", x, 0, Check.NXT, 117);
    }

    private static void noRoom(Check c) {
        c.says("room = (the smaller of WND and PEAK) - (offset of NXT from UNA)");
        Wire x = Check.inState(4);
        Check.write(x, 8, 8, 8);
        c.due("a room of -8", Check.acks(x, 101, 8), 0);
        c.due("a room of -16", Check.acks(x, 101, 0), 0);
        c.infos("NXT stays", x, 0, Check.NXT, 117);
        x = Check.window(0);
        Check.write(x, 8, 8);
        c.due("a room of 0", Check.row(x), 0);
        c.infos("NXT stays", x, 0, Check.NXT, 101);
    }

    private static void smallPieces(Check c) {
        c.says("if n is 8, or n > 0 and NXT is UNA, they are sent, NXT being behind them then; else that ends.");
        Wire x = Check.inState(4);
        Check.write(x, 1);
        c.infos("1 with nothing on its way", x, 0, Check.NXT, 102);
        Check.write(x, 7);
        c.infos("7 with 1 on its way", x, 0, Check.NXT, 102);
        Check.write(x, 1);
        c.infos("8 with 1 on its way", x, 0, Check.NXT, 110);
        Check.write(x, 1);
        c.infos("1 with 9 on their way", x, 0, Check.NXT, 110);
        Check.acks(x, 109, 24);
        c.infos("1 with 1 on its way", x, 0, Check.NXT, 110);
        Check.acks(x, 110, 24);
        c.infos("1 with nothing on its way", x, 0, Check.NXT, 111);
    }

    private static void theFinBehindTheBytes(Check c) {
        c.says("Then, if none is left, it is closed, NXT is not behind the FIN, and the room (from NXT as it is now) is above 0, "
            + "the FIN is sent, and NXT is behind it.");
        Wire x = Check.inState(4);
        Check.write(x, 1, 1);
        x.close(0);
        c.infos("one is left", x, 0, Check.NXT, 102);
        c.due("no FIN", Check.row(x), 1);
        c.due("the byte, and none is left", Check.acks(x, 102, 24), 2);
        c.due("the FIN", x.wire(0, 2, 1), FIN | ACK);
        c.infos("behind it", x, 0, Check.NXT, 104);
        x = Check.inState(4);
        Check.write(x, 1);
        c.due("it is not closed", Check.acks(x, 102, 24), 0);
        x = Check.inState(7);
        Check.write(x, 1);
        c.due("nor in CLOSE_WAIT", Check.arrives(x, 501, ACK, 102, 24, 0, 0), 0);
    }

    private static void theFinNeedsRoom(Check c) {
        c.says("Then, if none is left, it is closed, NXT is not behind the FIN, and the room (from NXT as it is now) is above 0, "
            + "the FIN is sent, and NXT is behind it.");
        Wire x = Check.window(9);
        Check.write(x, 8);
        x.close(0);
        c.infos("a room of 1", x, 0, Check.NXT, 110);
        x = Check.window(8);
        Check.write(x, 8);
        x.close(0);
        c.infos("a room of 0", x, 0, Check.NXT, 109);
        Check.acks(x, 101, 3);
        c.infos("a room of -5", x, 0, Check.NXT, 109);
        Check.acks(x, 102, 8);
        c.infos("a room of 1", x, 0, Check.NXT, 110);
        x = Check.inState(4);
        Check.write(x, 8, 8);
        x.close(0);
        c.infos("PEAK leaves no room", x, 0, Check.NXT, 117);
        // The room is reckoned from NXT behind the bytes that go at the same time.
        x = Check.window(0);
        Check.write(x, 8);
        x.close(0);
        c.due("8 bytes fill a window of 8", Check.acks(x, 101, 8), 1);
        c.infos("the FIN has no room", x, 0, Check.NXT, 109);
        x = Check.window(0);
        Check.write(x, 8);
        x.close(0);
        c.due("8 bytes and the FIN fill a window of 9", Check.acks(x, 101, 9), 2);
        // MAX is behind the FIN when it goes again, but the room is reckoned from NXT.
        x = Check.inState(4);
        Check.write(x, 3);
        x.close(0);
        Check.acks(x, 101, 4);
        c.due("3 bytes and the FIN again in a window of 4", x.tick(2), 2);
    }

    private static void theFinOnce(Check c) {
        c.says("Then, if none is left, it is closed, NXT is not behind the FIN, and the room (from NXT as it is now) is above 0, "
            + "the FIN is sent, and NXT is behind it.");
        int[] states = {5, 8, 9};
        for (int s : states) {
            Wire x = Check.inState(s);
            int rcv = s == 5 ? 500 : 501;
            c.due("NXT is behind it in state " + s, Check.arrives(x, rcv, ACK, 101, 20, 0, 0), 0);
            x.tick(2);
            c.due("it was sent again", x.wire(0, 0, 1), FIN | ACK);
            c.due("and NXT is behind it again", Check.arrives(x, rcv, ACK, 101, 24, 0, 0), 0);
        }
    }

    private static void aWindowOf0(Check c) {
        c.says("At last, if WND is 0 and NXT is UNA, and there are bytes, or a FIN, from NXT on, RETRY is set to now + RTO, "
            + "if it is not set.");
        Wire x = Check.window(0);
        Check.write(x, 1);
        c.infos("bytes", x, 0, Check.RETRY, 2, Check.NXT, 101);
        x.tick(1);
        Check.write(x, 1);
        c.infos("it is set", x, 0, Check.RETRY, 1);
        x = Check.window(0);
        x.close(0);
        c.infos("a FIN", x, 0, Check.RETRY, 2, Check.NXT, 101);
        x = Check.inState(7);
        Check.arrives(x, 501, ACK, 101, 0, 0, 0);
        x.close(0);
        c.infos("a FIN in LAST_ACK", x, 0, Check.RETRY, 2, Check.NXT, 101);
        // All that was sent is acknowledged with a window of 0, and a byte is left.
        x = Check.inState(4);
        Check.write(x, 1, 1);
        x.tick(1);
        Check.acks(x, 102, 0);
        c.infos("a byte is left", x, 0, Check.RETRY, 2, Check.UNA, 102, Check.NXT, 102);
        x = Check.inState(2);
        Check.write(x, 1);
        Check.arrives(x, 499, SYN | ACK, 101, 0, 0, 0);
        c.infos("a SYN with a window of 0", x, 0, Check.RETRY, 2, Check.NXT, 101);
        x = Check.inState(2);
        Check.write(x, 1);
        x.tick(3);
        Check.arrives(x, 499, SYN | ACK, 101, 0, 0, 0);
        c.infos("RTO is measured before that, R 3", x, 0, Check.RETRY, 9);
    }

    private static void nothingToProbeFor(Check c) {
        c.says("At last, if WND is 0 and NXT is UNA, and there are bytes, or a FIN, from NXT on, RETRY is set to now + RTO, "
            + "if it is not set.");
        Wire x = Check.window(0);
        c.infos("nothing", x, 0, Check.RETRY, -1);
        x = Check.inState(4);
        Check.write(x, 1);
        Check.acks(x, 102, 0);
        c.infos("all is acknowledged", x, 0, Check.RETRY, -1);
        x = Check.inState(7);
        Check.arrives(x, 501, ACK, 101, 0, 0, 0);
        c.infos("it is not closed", x, 0, Check.RETRY, -1);
        x = Check.inState(5);
        Check.acks(x, 102, 0);
        c.infos("the FIN is acknowledged", x, 0, Check.RETRY, -1);
        x = Check.inState(6);
        Check.arrives(x, 500, FIN | ACK, 102, 0, 0, 0);
        c.infos("TIME_WAIT", x, 0, Check.RETRY, -1);
    }
}
