/** The edges of promise 15: order and limits. */
public final class EdgeLimitsTest {
    private static final int SYN = 1, ACK = 2, FIN = 4;

    public static void main(String[] args) {
        Check.bothWays(c -> {
            refusedBeforeFull(c);
            twiceRefusedBeforeFull(c);
            theFinCame(c);
            aHeldFin(c);
            roundedDown(c);
            rcvAndWndAtFirst(c);
            whatASynBrings(c);
            noSuchEnd(c);
            ackWithoutItsFlag(c);
            manyCalls(c);
        });
    }

    private static void refusedBeforeFull(Check c) {
        c.says("forge: REFUSED is tested before FULL");
        Wire x = new Wire();
        Check.fill(x, 16);
        EdgeLinkCallsTest.outOfRange(c, x);
        c.due("FULL", x.forge(0, 1, ACK, 1, 1, 1, 1), -2);
    }

    private static void twiceRefusedBeforeFull(Check c) {
        c.says("so it is in twice.");
        Wire x = new Wire();
        Check.fill(x, 16);
        c.due("k 16", x.twice(0, 16), -1);
        c.due("k -1", x.twice(0, -1), -1);
        c.due("k at its greatest", x.twice(0, Integer.MAX_VALUE), -1);
        c.due("k at its least", x.twice(0, Integer.MIN_VALUE), -1);
        c.due("FULL", x.twice(0, 15), -2);
    }

    private static void theFinCame(Check c) {
        c.says("read: the FIN came when RCV went on over it (states 7 to 10)");
        int[] due = {0, 0, 0, 0, 0, 0, 0, -1, -1, -1, -1};
        for (int s = 1; s <= 10; s++) {
            c.due("in state " + s, Check.inState(s).read(0, 7), due[s]);
        }
    }

    private static void aHeldFin(Check c) {
        c.says("a FIN that is just held did not come yet.");
        for (int s = 4; s <= 6; s++) {
            Wire x = Check.inState(s);
            int una = x.info(0, Check.UNA);
            Check.arrives(x, 501, FIN | ACK, una, 24, 0, 0);
            c.infos("held", x, 0, Check.HELD, 1);
            c.due("in state " + s, x.read(0, 7), 0);
            Check.arrives(x, 500, ACK, una, 24, 1, 5);
            c.due("in state " + s, x.read(0, 7), (1L << 56) + 5);
            c.due("in state " + s, x.read(0, 7), -1);
        }
    }

    private static void roundedDown(Check c) {
        c.says("All quotients (64 / PEAK, S / 8, V / 4, the half of an offset) are rounded down.");
        Wire x = Check.inState(4);
        Check.write(x, 8, 8);
        x.tick(2);
        int[] peaks = {16, 20, 23, 25};
        for (int i = 0; i < peaks.length; i++) {
            Check.acks(x, 102 + i, 24);
            c.infos("64 / PEAK", x, 0, Check.PEAK, peaks[i]);
        }
        // S 48, V 12; R 1: D 1 - 6, S 43, V 12 + 5 - 3; R 0: D 0 - 5, S 38, V 14 + 5 - 3 (14 / 4).
        x = Check.slow();
        Check.write(x, 1);
        x.tick(1);
        Check.acks(x, 102, 24);
        c.infos("43 / 8 is 5", x, 0, Check.RTO, 5 + 14);
        Check.write(x, 1);
        Check.acks(x, 103, 24);
        c.infos("38 / 8 is 4, 14 / 4 is 3", x, 0, Check.RTO, 4 + 16);
        c.infos("half of 19 is 9", EdgeAckTest.nineteen(), 0, Check.HALF, 9);
    }

    private static void rcvAndWndAtFirst(Check c) {
        c.says("RCV and WND are 0 at first, so info 5 and 6 are 0 in SYN_SENT.");
        c.infos("at first", Check.inState(2), 0, Check.RCV, 0, Check.WND, 0);
        Wire x = Check.inState(4);
        x.abort(0);
        x.open(0, true, 7);
        c.infos("in its second life, too", x, 0, Check.RCV, 0, Check.WND, 0);
    }

    private static void whatASynBrings(Check c) {
        c.says("In SYN_SENT, as in LISTEN, nothing comes of the bytes and the FIN that a segment with SYN brings.");
        int[][] rows = {{1, SYN}, {2, SYN}, {2, SYN | ACK}};
        int[] states = {3, 3, 4};
        int[] sizes = {0, 1, 8};
        for (int i = 0; i < rows.length; i++) {
            for (int n : sizes) {
                Wire x = Check.inState(rows[i][0]);
                c.due("one is sent", Check.arrives(x, 499, rows[i][1] | FIN, 101, 24, n, 1), 1);
                c.due("state", x.state(0), states[i]);
                c.infos("nothing of the rest", x, 0, Check.RCV, 500, Check.UNREAD, 0, Check.HELD, 0, Check.WAITS, 0);
            }
        }
    }

    private static void noSuchEnd(Check c) {
        c.says("Every call with an end that is not 0 or 1 is REFUSED, wire with what -1, too.");
        int[] ends = {-1, 2, 3, 65536, Integer.MIN_VALUE, Integer.MAX_VALUE};
        Wire x = Check.inState(4);
        x.forge(0, 1, ACK, 1, 1, 1, 1);
        x.forge(1, 1, ACK, 1, 1, 1, 1);
        String before = Check.picture(x);
        for (int e : ends) {
            c.due("open", x.open(e, true, 1), -1);
            c.due("open", x.open(e, false, 1), -1);
            c.due("write", x.write(e, 1, 1), -1);
            c.due("read", x.read(e, 1), -1);
            c.due("close", x.close(e), -1);
            c.due("abort", x.abort(e), -1);
            c.due("deliver", x.deliver(e, 0), -1);
            c.due("drop", x.drop(e, 0), -1);
            c.due("twice", x.twice(e, 0), -1);
            c.due("forge", x.forge(e, 1, ACK, 1, 1, 0, 0), -1);
            c.due("state", x.state(e), -1);
            c.due("info", x.info(e, 0), -1);
            c.due("wire", x.wire(e, 0, 0), -1);
            c.due("wire, what -1", x.wire(e, 0, -1), -1);
        }
        c.unchanged("a call with no end", x, before);
    }

    private static void ackWithoutItsFlag(Check c) {
        c.says("forge: ack has to be in its range without the flag ACK, too, but the segment has ACK 0 then.");
        int[] flags = {0, 1, 4, 5, 8, 9, 12, 13};
        for (int f : flags) {
            Wire x = new Wire();
            c.due("-1", x.forge(0, 1, f, -1, 1, 0, 0), -1);
            c.due("65536", x.forge(0, 1, f, 65536, 1, 0, 0), -1);
            c.due("nothing came", Check.row(x), 0);
            c.due("65535", x.forge(0, 1, f, 65535, 1, 0, 0), 1);
            c.due("ACK", x.wire(0, 0, 2), 0);
        }
    }

    /** Five calls, 84 rounds of six, and two that look: 511. The numbers wrap on the way. */
    private static void manyCalls(Check c) {
        c.says("An object is used for at most 512 calls after it has been made");
        Wire x = new Wire();
        x.open(0, true, 65000);
        x.forge(1, 64999, SYN | ACK, 65001, 24, 0, 0);
        x.deliver(1, 0);
        x.drop(0, 0);
        x.drop(0, 0);
        for (int i = 0; i < 84; i++) {
            x.forge(1, 65000 + 8 * i & 65535, ACK, 65001 + 8 * i & 65535, 24, 8, 8 * i);
            c.due("deliver " + i, x.deliver(1, 0), 0);
            c.due("the first of 7 bytes " + i, x.read(0, 7) & 255, 8 * i & 255);
            c.due("the eighth " + i, x.read(0, 7), (1L << 56) + (8 * i + 7 & 255));
            c.due("write " + i, x.write(0, i, 8), 8);
            c.due("it was sent " + i, x.drop(0, 0), 0);
        }
        c.infos("the last calls", x, 0, Check.RCV, 65000 + 8 * 84 & 65535, Check.NXT, 65001 + 8 * 84 & 65535);
    }
}
