/** A SEGMENT ARRIVES, up to its ACK: each state's answer to what may come. */
public final class ArriveTest {
    private static final int SYN = 1, ACK = 2, FIN = 4, RST = 8;

    public static void main(String[] args) {
        Check.bothWays(c -> {
            inClosed(c);
            inListen(c);
            inSynSent(c);
            atOnce(c);
            acceptable(c);
            rstAndSyn(c);
            inSynReceived(c);
            fromOpeningToTheEnd(c);
        });
    }

    private static void inClosed(Check c) {
        Wire x = new Wire();
        c.due("RST", Check.arrives(x, 1, RST, 0, 0, 0, 0), 0);
        c.due("RST and more", Check.arrives(x, 1, RST | ACK | SYN, 9, 0, 0, 0), 0);
        c.due("ACK", Check.arrives(x, 7, ACK | SYN, 9, 5, 2, 0), 1);
        c.segment("SEQ its ACK", x, 0, 0, Check.head(9, RST, 0, 0));
        c.due("SYN", Check.arrives(x, 65535, SYN, 9, 5, 0, 0), 1);
        c.segment("SEQ + 1", x, 0, 1, Check.head(0, RST | ACK, 0, 0));
        c.due("all that counts", Check.arrives(x, 65530, SYN | FIN, 9, 5, 8, 0), 1);
        c.segment("SEQ + 10", x, 0, 2, Check.head(0, RST | ACK, 4, 0));
        c.due("nothing at all", Check.arrives(x, 20, 0, 9, 5, 0, 0), 1);
        c.segment("SEQ", x, 0, 3, Check.head(0, RST | ACK, 20, 0));
        c.due("still CLOSED", x.state(0), 0);
    }

    private static void inListen(Check c) {
        Wire x = Check.inState(1);
        c.due("RST", Check.arrives(x, 1, RST, 0, 0, 0, 0), 0);
        c.due("RST, SYN", Check.arrives(x, 1, RST | SYN, 0, 0, 0, 0), 0);
        c.due("RST, ACK", Check.arrives(x, 1, RST | ACK, 3, 0, 0, 0), 0);
        c.due("none", Check.arrives(x, 1, 0, 0, 0, 3, 0), 0);
        c.due("FIN", Check.arrives(x, 1, FIN, 0, 0, 0, 0), 0);
        c.due("SYN, ACK", Check.arrives(x, 1, SYN | ACK, 3, 0, 0, 0), 1);
        c.segment("a RST", x, 0, 0, Check.head(3, RST, 0, 0));
        c.due("still LISTEN", x.state(0), 1);
        c.due("SYN", Check.arrives(x, 65535, SYN, 0, 11, 0, 0), 1);
        c.due("SYN_RECEIVED", x.state(0), 3);
        c.segment("SYN and ACK", x, 0, 1, Check.head(100, SYN | ACK, 0, 24));
        c.infos("begun", x, 0, Check.UNA, 100, Check.NXT, 101, Check.RCV, 0, Check.WND, 11, Check.RETRY, 8,
            Check.PEAK, 16, Check.RTO, 8);
    }

    private static void inSynSent(Check c) {
        Wire x = Check.inState(2);
        c.due("ACK too low", Check.arrives(x, 1, SYN | ACK, 100, 5, 0, 0), 1);
        c.segment("a RST", x, 0, 0, Check.head(100, RST, 0, 0));
        c.due("ACK too high", Check.arrives(x, 1, ACK, 102, 5, 0, 0), 1);
        c.segment("a RST", x, 0, 1, Check.head(102, RST, 0, 0));
        c.due("RST with a wrong ACK", Check.arrives(x, 1, RST | ACK, 100, 5, 0, 0), 0);
        c.due("RST without ACK", Check.arrives(x, 1, RST | SYN, 0, 5, 0, 0), 0);
        c.due("the right ACK alone", Check.arrives(x, 1, ACK | FIN, 101, 5, 3, 0), 0);
        c.due("none", Check.arrives(x, 1, 0, 0, 5, 3, 0), 0);
        c.due("still SYN_SENT", x.state(0), 2);
        c.infos("RCV is not known", x, 0, Check.RCV, 0, Check.RETRY, 8, Check.UNA, 100);
        c.due("RST with the right ACK", Check.arrives(x, 1, RST | ACK, 101, 5, 0, 0), 0);
        c.due("CLOSED", x.state(0), 0);
        c.infos("error 1", x, 0, Check.ERROR, 1);
        x = Check.inState(2);
        x.tick(8);
        c.infos("once again", x, 0, Check.TRIES, 1, Check.RTO, 16, Check.RETRY, 16);
        Check.clear(x, 0);
        c.due("SYN and ACK", Check.arrives(x, 499, SYN | ACK, 101, 13, 0, 0), 1);
        c.segment("an ACK", x, 0, 0, Check.head(101, ACK, 500, 24));
        c.infos("RTO is not measured", x, 0, Check.TRIES, 0, Check.RTO, 16, Check.RETRY, -1, Check.WND, 13,
            Check.UNA, 101, Check.NXT, 101, Check.PEAK, 16);
    }

    /** Both ends open actively: each gets a SYN without ACK. */
    private static void atOnce(Check c) {
        Wire x = new Wire();
        x.open(0, true, 100);
        x.open(1, true, 500);
        x.write(0, 0x0201, 2);
        x.tick(3);
        c.due("SYN meets SYN", x.deliver(1, 0), 1);
        c.due("SYN_RECEIVED", x.state(0), 3);
        c.segment("SYN and ACK", x, 0, 1, Check.head(100, SYN | ACK, 501, 24));
        c.infos("RETRY stays", x, 0, Check.RETRY, 5, Check.UNA, 100, Check.NXT, 101, Check.KEPT, 2, Check.WND, 24);
        c.due("SYN meets SYN", x.deliver(0, 0), 1);
        c.due("the SYN and ACK is not taken twice", x.deliver(0, 0), 1);
        c.due("an ACK is sent for it", x.wire(1, 1, 1), ACK);
        c.due("SYN and ACK in SYN_RECEIVED", x.deliver(1, 0), 1);
        c.due("SEQ before RCV: just an ACK", x.state(0), 3);
        c.due("the ACK", x.deliver(1, 0), 1);
        c.due("ESTABLISHED", x.state(0), 4);
        // The SYN is still the TIMED one: R 3.
        c.infos("measured", x, 0, Check.RTO, 9, Check.PEAK, 24, Check.UNA, 101);
        x.deliver(0, 0);
        c.due("the ACK", x.state(1), 4);
    }

    private static void acceptable(Check c) {
        Wire x = Check.inState(4);
        Check.arrives(x, 500, ACK, 101, 24, 4, 1);
        x.tick(2);
        Check.clear(x, 0);
        // RCV 504, own window 20.
        int[][] rows = {
            // seq, n, whether it is acceptable
            {503, 0, 0}, {504, 0, 1}, {524, 0, 1}, {525, 0, 0},
            {503, 1, 0}, {500, 4, 0}, {524, 1, 0}, {523, 1, 1}, {33271, 8, 0}, {33272, 8, 0},
        };
        for (int[] r : rows) {
            int before = x.info(0, Check.WND);
            int told = before == 24 ? 12 : 24;
            c.due("seq " + r[0] + ", n " + r[1], Check.arrives(x, r[0], ACK, 101, told, r[1], 9),
                r[1] > 0 || r[2] == 0 ? 1 : 0);
            boolean taken = x.info(0, Check.WND) == told;
            c.due("seq " + r[0] + ", n " + r[1] + " is taken", taken ? 1 : 0, r[2] == 1 && r[0] >= 504 ? lateEnough(r[0]) : 0);
        }
        x = Check.inState(4);
        Check.arrives(x, 496, ACK, 101, 24, 5, 1);
        c.infos("its last byte is new", x, 0, Check.RCV, 501, Check.UNREAD, 1);
        c.due("that one", x.read(0, 7), (1L << 56) + 5);
        x = Check.inState(4);
        for (int i = 0; i < 3; i++) {
            Check.arrives(x, 500 + 8 * i, ACK, 101, 24, 8, 1);
        }
        Check.clear(x, 0);
        x.write(0, 1, 8);
        c.due("no window, a byte", Check.arrives(x, 524, ACK, 109, 24, 1, 1), 1);
        c.infos("not even its ACK is taken", x, 0, Check.UNA, 101, Check.UNREAD, 24);
        c.due("no window, an ACK alone", Check.arrives(x, 524, ACK, 109, 24, 0, 1), 0);
        c.infos("is taken", x, 0, Check.UNA, 109);
        inTimeWait(c);
    }

    /** WND is set by the segments with SEQ 504, 524, then none that is earlier than 524. */
    private static int lateEnough(int seq) {
        return seq == 504 || seq == 524 ? 1 : 0;
    }

    private static void inTimeWait(Check c) {
        Wire x = Check.inState(10);
        x.tick(5);
        c.due("the FIN again", Check.arrives(x, 500, FIN | ACK, 102, 24, 0, 0), 1);
        c.segment("an ACK", x, 0, 0, Check.head(102, ACK, 501, 24));
        c.due("20 from then", x.tick(19), 0);
        c.due("still", x.state(0), 10);
        c.due("an ACK from before does not set it", Check.arrives(x, 400, ACK, 102, 24, 0, 0), 1);
        x.tick(1);
        c.due("CLOSED", x.state(0), 0);
        x = Check.inState(10);
        x.tick(5);
        c.due("a RST with a FIN from before", Check.arrives(x, 400, FIN | RST, 102, 24, 0, 0), 0);
        x.tick(15);
        c.due("sets WAIT, too", x.state(0), 10);
        x = Check.inState(10);
        x.tick(5);
        c.due("a FIN that is acceptable", Check.arrives(x, 501, FIN | ACK, 102, 24, 0, 0), 1);
        x.tick(15);
        c.due("does not", x.state(0), 0);
    }

    private static void rstAndSyn(Check c) {
        for (int s = 3; s <= 10; s++) {
            int rcv = s == 3 ? 500 : s <= 6 ? 500 : 501;
            Wire x = Check.inState(s);
            c.due("a RST in the window in state " + s, Check.arrives(x, rcv + 1, RST, 0, 0, 0, 0), 1);
            c.due("is answered with an ACK", x.wire(0, 0, 1), ACK);
            c.due("a RST outside", Check.arrives(x, rcv - 1, RST, 0, 0, 0, 0), 0);
            c.due("a RST outside", Check.arrives(x, rcv + 25, RST, 0, 0, 0, 0), 0);
            c.due("a SYN in the window", Check.arrives(x, rcv, SYN | ACK, 101, 0, 0, 0), 1);
            c.due("is answered with an ACK", x.wire(0, 1, 1), ACK);
            c.due("no ACK flag", Check.arrives(x, rcv, FIN, 0, 0, 3, 0), 0);
            c.due("state stays", x.state(0), s);
            c.due("RCV stays", x.info(0, Check.RCV), rcv);
            c.due("the right RST", Check.arrives(x, rcv, RST, 0, 0, 0, 0), 0);
            c.due("CLOSED", x.state(0), 0);
            c.infos("error in state " + s, x, 0, Check.ERROR, s < 8 ? 1 : 0, Check.RETRY, -1);
            c.due("nothing is set", x.tick(100), 0);
        }
    }

    private static void inSynReceived(Check c) {
        Wire x = Check.inState(3);
        c.due("ACK 100", Check.arrives(x, 500, ACK, 100, 24, 0, 0), 1);
        c.segment("a RST", x, 0, 0, Check.head(100, RST, 0, 0));
        c.due("ACK 102", Check.arrives(x, 500, ACK, 102, 24, 0, 0), 1);
        c.segment("a RST", x, 0, 1, Check.head(102, RST, 0, 0));
        c.due("still SYN_RECEIVED", x.state(0), 3);
        x.tick(4);
        c.due("ACK 101, with bytes", Check.arrives(x, 500, ACK, 101, 9, 2, 5), 0);
        c.due("ESTABLISHED", x.state(0), 4);
        c.infos("all of it", x, 0, Check.UNA, 101, Check.NXT, 101, Check.RCV, 502, Check.UNREAD, 2, Check.WND, 9,
            Check.PEAK, 24, Check.RTO, 12, Check.RETRY, -1, Check.WAITS, 1);
        x = Check.inState(3);
        Check.arrives(x, 500, ACK | FIN, 101, 9, 0, 0);
        c.due("ACK 101, with a FIN", x.state(0), 7);
    }

    private static void fromOpeningToTheEnd(Check c) {
        Wire x = Check.connected(65535, 65534);
        c.due("both close", x.close(0), 5);
        c.due("both close", x.close(1), 5);
        c.due("FIN meets FIN", x.deliver(0, 0), 1);
        c.due("FIN meets FIN", x.deliver(1, 0), 1);
        c.due("CLOSING", x.state(0) * 100 + x.state(1), 808);
        x.deliver(0, 0);
        x.deliver(1, 0);
        c.due("TIME_WAIT", x.state(0) * 100 + x.state(1), 1010);
        x.tick(19);
        c.due("TIME_WAIT", x.state(0) * 100 + x.state(1), 1010);
        x.tick(1);
        c.due("CLOSED", x.state(0) * 100 + x.state(1), 0);
        c.infos("no error", x, 0, Check.ERROR, 0);
    }
}
