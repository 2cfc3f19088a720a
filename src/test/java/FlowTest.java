/** FLOW, and what an end SENDS. */
public final class FlowTest {
    public static void main(String[] args) {
        Check.bothWays(c -> {
            smallPiecesWait(c);
            peakLimits(c);
            windowLimits(c);
            aClosedWindow(c);
            theFinNeedsRoom(c);
            whatIsTimed(c);
            sentBytesCarryTheAck(c);
        });
    }

    private static void smallPiecesWait(Check c) {
        Wire x = Check.inState(4);
        x.write(0, 1, 1);
        c.due("nothing is on its way: sent at once", x.wire(0, 0, -1), 1);
        x.write(0, 2, 3);
        x.write(0, 2, 4);
        c.due("7 bytes wait", x.wire(0, 0, -1), 1);
        x.write(0, 2, 2);
        c.due("8 of 9 go", x.wire(0, 0, -1), 2);
        c.segment("8 of 9", x, 0, 1, Check.head(102, 2, 500, 24), 2, 0, 0, 2, 0, 0, 0, 2);
        c.due("the last waits till all is acknowledged", Check.arrives(x, 500, 2, 102, 24, 0, 0), 0);
        c.due("now it goes", Check.arrives(x, 500, 2, 110, 24, 0, 0), 1);
        c.segment("1 byte", x, 0, 2, Check.head(110, 2, 500, 24), 0);
        c.infos("numbers", x, 0, Check.UNA, 110, Check.NXT, 111, Check.KEPT, 1);
    }

    private static void peakLimits(Check c) {
        Wire x = Check.inState(4);
        x.write(0, 1, 8);
        x.write(0, 1, 8);
        x.write(0, 1, 8);
        c.due("PEAK 16", x.wire(0, 0, -1), 2);
        c.infos("PEAK 16", x, 0, Check.NXT, 117, Check.KEPT, 24);
        // UNA 102, PEAK 24, WND 24: 15 on their way, room 9.
        c.due("room for 8", Check.arrives(x, 500, 2, 102, 24, 0, 0), 1);
        c.infos("PEAK 24", x, 0, Check.NXT, 125, Check.PEAK, 24);
    }

    private static void windowLimits(Check c) {
        Wire x = Check.inState(4);
        Check.arrives(x, 500, 2, 101, 5, 0, 0);
        x.write(0, 0x0807060504030201L, 8);
        c.due("a piece of 5, as nothing is on its way", x.wire(0, 0, 4), 5);
        c.due("that is all", x.wire(0, 0, -1), 1);
        // WND is 5 - 5 = 0 by the ACK, but the segment sets it to 15: room for the 3 that are left.
        c.due("then 3", Check.arrives(x, 500, 2, 106, 15, 0, 0), 1);
        c.segment("3 bytes", x, 0, 1, Check.head(106, 2, 500, 24), 6, 7, 8);
        x = Check.inState(4);
        Check.arrives(x, 500, 2, 101, 15, 0, 0);
        x.write(0, 1, 8);
        x.write(0, 1, 8);
        c.due("room for 7 is no room for 8", x.wire(0, 0, -1), 1);
        c.due("nor less room than nothing", Check.arrives(x, 500, 2, 101, 3, 0, 0), 0);
        c.due("but room for 16 is", Check.arrives(x, 500, 2, 101, 16, 0, 0), 1);
    }

    private static void aClosedWindow(Check c) {
        Wire x = Check.inState(4);
        Check.arrives(x, 500, 2, 101, 0, 0, 0);
        c.infos("nothing to send", x, 0, Check.WND, 0, Check.RETRY, -1);
        x.write(0, 0x0A09, 2);
        c.due("nothing is sent", x.wire(0, 0, -1), 0);
        c.infos("RETRY is set", x, 0, Check.RETRY, 2, Check.NXT, 101, Check.UNA, 101);
        x.tick(1);
        x.write(0, 0x0B, 1);
        c.infos("it was set before", x, 0, Check.RETRY, 1);
        c.due("a PROBE", x.tick(1), 1);
        c.segment("the PROBE", x, 0, 0, Check.head(100, 2, 500, 24));
        c.infos("doubled, no try", x, 0, Check.RTO, 4, Check.RETRY, 4, Check.TRIES, 0, Check.PEAK, 16, Check.HALF, 64);
        // At 6, 14, 30, 62, 126, 190, .., every 64 then.
        c.due("PROBEs never give up", x.tick(1000), 18);
        c.infos("64 at most", x, 0, Check.RTO, 64, Check.TRIES, 0);
        Check.clear(x, 0);
        c.due("the window opens", Check.arrives(x, 500, 2, 101, 24, 0, 0), 1);
        c.segment("the bytes", x, 0, 0, Check.head(101, 2, 500, 24), 9, 10, 11);
        x = Check.inState(4);
        Check.arrives(x, 500, 2, 101, 0, 0, 0);
        x.close(0);
        c.infos("a FIN, too", x, 0, Check.RETRY, 2, Check.NXT, 101);
        c.due("is not sent", x.wire(0, 0, -1), 0);
        x.tick(2);
        c.segment("the PROBE", x, 0, 0, Check.head(100, 2, 500, 24));
        theProbeIsAnswered(c);
    }

    private static void theProbeIsAnswered(Check c) {
        Wire x = Check.connected(100, 500);
        for (int i = 0; i < 3; i++) {
            x.write(0, 1, 8);
            x.deliver(0, 0);
            x.tick(2);
            Check.clear(x, 0);
            for (int left = x.wire(1, 0, -1); left > 0; left--) {
                x.deliver(1, 0);
            }
        }
        c.infos("end 1 is full", x, 1, Check.UNREAD, 24);
        c.infos("end 0 knows", x, 0, Check.WND, 0, Check.KEPT, 0);
        x.write(0, 7, 1);
        int rto = x.info(0, Check.RTO);
        c.due("a PROBE", x.tick(rto), 1);
        c.due("is answered", x.deliver(0, 0), 1);
        c.segment("with an ACK", x, 1, 0, Check.head(501, 2, 125, 0));
        x.read(1, 7);
        x.read(1, 1);
        c.segment("and the wider window is told", x, 1, 1, Check.head(501, 2, 125, 8));
        c.due("the ACK", x.deliver(1, 0), 0);
        c.due("the window", x.deliver(1, 0), 1);
        c.due("the byte", x.deliver(0, 0), 0);
        c.infos("came", x, 1, Check.UNREAD, 17);
    }

    private static void theFinNeedsRoom(Check c) {
        Wire x = Check.inState(4);
        Check.arrives(x, 500, 2, 101, 8, 0, 0);
        x.write(0, 1, 8);
        x.close(0);
        c.due("no room behind 8 of 8", x.wire(0, 0, -1), 1);
        c.infos("NXT is the FIN", x, 0, Check.NXT, 109);
        c.due("room of 1", Check.arrives(x, 500, 2, 101, 9, 0, 0), 1);
        c.segment("the FIN", x, 0, 1, Check.head(109, 6, 500, 24));
        c.due("just once", Check.arrives(x, 500, 2, 101, 24, 0, 0), 0);
    }

    private static void whatIsTimed(Check c) {
        Wire x = Check.inState(4);
        Check.arrives(x, 500, 2, 101, 24, 0, 0);
        x.write(0, 1, 8);
        x.tick(1);
        x.write(0, 1, 8);
        c.infos("RETRY stays", x, 0, Check.RETRY, 1);
        // TIMED is the first piece (R 1), not the second: S was 0, V 0; D 1, S 1, V 1.
        Check.arrives(x, 500, 2, 117, 24, 0, 0);
        c.infos("S / 8 + V is 1, at least 2", x, 0, Check.RTO, 2, Check.RETRY, -1);
        // R 10 by retransmission is never measured.
        x = Check.inState(4);
        x.write(0, 1, 8);
        x.tick(2);
        c.infos("again", x, 0, Check.RTO, 4, Check.RETRY, 4);
        x.tick(3);
        Check.arrives(x, 500, 2, 109, 24, 0, 0);
        c.infos("what was sent again is not measured", x, 0, Check.RTO, 4, Check.RETRY, -1, Check.TRIES, 0);
        // S 48, V 12 by the SYN; the byte takes 14: D 8, S 56, V 12 + 8 - 3.
        x = Check.slow();
        x.write(0, 1, 1);
        x.tick(14);
        Check.arrives(x, 500, 2, 102, 24, 0, 0);
        c.infos("7 + 17", x, 0, Check.RTO, 24);
        // S 120 at first, V 30: 15 + 30; the SYN came back just before it would go again twice.
        x = new Wire();
        x.open(0, true, 100);
        x.tick(7);
        Check.arrives(x, 499, 3, 101, 24, 0, 0);
        c.infos("7 + 14", x, 0, Check.RTO, 21);
        x.write(0, 1, 1);
        x.tick(20);
        // D 13, S 69, V 14 + 13 - 3.
        Check.arrives(x, 500, 2, 102, 24, 0, 0);
        c.infos("8 + 24", x, 0, Check.RTO, 32);
        x.write(0, 1, 1);
        x.tick(31);
        // D 31 - 8, S 92, V 24 + 23 - 6.
        Check.arrives(x, 500, 2, 103, 24, 0, 0);
        c.infos("11 + 41", x, 0, Check.RTO, 52);
        x.write(0, 1, 1);
        x.tick(51);
        // D 51 - 11, S 132, V 41 + 40 - 10: 16 + 71 is more than 64.
        Check.arrives(x, 500, 2, 104, 24, 0, 0);
        c.infos("64 at most", x, 0, Check.RTO, 64);
    }

    private static void sentBytesCarryTheAck(Check c) {
        Wire x = Check.inState(4);
        Check.arrives(x, 500, 2, 101, 24, 3, 1);
        c.infos("an ACK waits", x, 0, Check.WAITS, 1);
        x.write(0, 1, 1);
        c.segment("a byte with the ACK", x, 0, 0, Check.head(101, 2, 503, 21), 1);
        c.infos("it waits no more", x, 0, Check.WAITS, 0);
        c.due("and is not sent alone: the byte goes again", x.tick(2), 1);
        c.due("the byte", x.wire(0, 1, 4), 1);
    }
}
