/** The edges of A SEGMENT ARRIVES in CLOSED, LISTEN and SYN_SENT. */
public final class EdgeOpeningTest {
    private static final int SYN = 1, ACK = 2, FIN = 4, RST = 8;

    public static void main(String[] args) {
        Check.bothWays(c -> {
            closedAndRst(c);
            closedAndAck(c);
            closedAndNoAck(c);
            listenRefuses(c);
            listenAndSyn(c);
            listenElse(c);
            synSentAndAnotherAck(c);
            synSentAndRst(c);
            synSentAndSynAck(c);
            synSentAndSyn(c);
            synSentElse(c);
        });
    }

    private static void closedAndRst(Check c) {
        c.says("A SEGMENT ARRIVES, in CLOSED: nothing comes of a RST");
        for (int flags = RST; flags <= 15; flags++) {
            Wire x = new Wire();
            c.due("flags " + flags, Check.arrives(x, 7, flags, 9, 24, 8, 0), 0);
            c.due("nothing is sent", Check.row(x), 0);
            c.due("it stays CLOSED", x.state(0), 0);
        }
    }

    private static void closedAndAck(Check c) {
        c.says("else a RST is sent: with SEQ its ACK if it has that flag");
        int[] acks = {0, 1, 32768, 65535};
        int[] flags = {ACK, ACK | SYN, ACK | FIN, ACK | SYN | FIN};
        for (int i = 0; i < 4; i++) {
            Wire x = new Wire();
            c.due("flags " + flags[i], Check.arrives(x, 7, flags[i], acks[i], 24, 8, 0), 1);
            c.segment("flags " + flags[i], x, 0, 0, Check.head(acks[i], RST, 0, 0));
        }
    }

    private static void closedAndNoAck(Check c) {
        c.says("else with flags RST and ACK, SEQ 0, ACK its SEQ + its LENGTH (a RST has WINDOW 0).");
        int[][] rows = {{0, 0, 0, 0}, {65535, 0, 0, 65535}, {65535, SYN, 0, 0}, {65535, FIN, 0, 0},
            {65528, 0, 8, 0}, {65527, SYN, 8, 0}, {65526, SYN | FIN, 8, 0}, {65530, SYN | FIN, 8, 4}};
        for (int[] r : rows) {
            Wire x = new Wire();
            c.due("SEQ " + r[0], Check.arrives(x, r[0], r[1], 99, 24, r[2], 0), 1);
            c.segment("SEQ " + r[0], x, 0, 0, Check.head(0, RST | ACK, r[3], 0));
        }
    }

    private static void listenRefuses(Check c) {
        c.says("In LISTEN: nothing for RST; for ACK such a RST");
        for (int flags = 0; flags <= 15; flags++) {
            if ((flags & (RST | ACK)) == 0) {
                continue;
            }
            Wire x = Check.inState(1);
            boolean answers = (flags & RST) == 0;
            c.due("flags " + flags, Check.arrives(x, 7, flags, 9, 24, 8, 0), answers ? 1 : 0);
            if (answers) {
                c.segment("flags " + flags, x, 0, 0, Check.head(9, RST, 0, 0));
            }
            c.due("it stays LISTEN", x.state(0), 1);
        }
    }

    private static void listenAndSyn(Check c) {
        c.says("for SYN (what else it brings is lost): RCV is its SEQ + 1, WND its WINDOW; UNA, NXT and MAX are ISS, state 3, "
            + "SYN and ACK are sent with SEQ ISS, NXT is behind");
        int[][] rows = {{0, 0, 0, 100, 0}, {499, FIN, 8, 100, 24}, {65535, 0, 8, 65535, 1}, {65534, FIN, 0, 0, 24}};
        for (int[] r : rows) {
            Wire x = new Wire();
            x.open(0, false, r[3]);
            int rcv = r[0] + 1 & 65535;
            c.due("SYN", Check.arrives(x, r[0], SYN | r[1], 0, r[4], r[2], 0), 1);
            c.due("SYN_RECEIVED", x.state(0), 3);
            c.segment("SYN and ACK", x, 0, 0, Check.head(r[3], SYN | ACK, rcv, 24));
            c.infos("SYN_RECEIVED", x, 0, Check.RCV, rcv, Check.WND, r[4], Check.UNA, r[3], Check.NXT, r[3] + 1 & 65535,
                Check.UNREAD, 0, Check.HELD, 0, Check.WAITS, 0, Check.RETRY, 8);
            c.due("MAX", Check.max(x), r[3] + 1 & 65535);
        }
    }

    private static void listenElse(Check c) {
        c.says("NXT is behind; else nothing.");
        int[] flags = {0, FIN};
        for (int f : flags) {
            Wire x = Check.inState(1);
            c.due("flags " + f, Check.arrives(x, 7, f, 0, 24, 8, 0), 0);
            c.due("nothing is sent", Check.row(x), 0);
            c.due("it stays LISTEN", x.state(0), 1);
            c.infos("nothing is taken", x, 0, Check.UNREAD, 0, Check.HELD, 0);
        }
    }

    private static void synSentAndAnotherAck(Check c) {
        c.says("In SYN_SENT: ACK other than ISS + 1: such a RST, but nothing for a RST.");
        int[] acks = {100, 102, 0, 65535, 101 + 32768};
        int[] flags = {ACK, ACK | SYN, ACK | FIN, ACK | SYN | FIN};
        for (int ack : acks) {
            for (int f : flags) {
                Wire x = Check.inState(2);
                c.due("ACK " + ack, Check.arrives(x, 499, f, ack, 24, 8, 0), 1);
                c.segment("ACK " + ack, x, 0, 0, Check.head(ack, RST, 0, 0));
                c.due("with RST", Check.arrives(x, 499, f | RST, ack, 24, 8, 0), 0);
                c.due("it stays SYN_SENT", x.state(0), 2);
                c.infos("nothing is taken", x, 0, Check.ERROR, 0, Check.UNA, 100, Check.NXT, 101, Check.RCV, 0, Check.WND, 0,
                    Check.RETRY, 8);
            }
        }
    }

    private static void synSentAndRst(Check c) {
        c.says("Else RST: with ACK the end is RESET, without nothing.");
        int[] more = {0, SYN, FIN, SYN | FIN};
        for (int m : more) {
            Wire x = Check.inState(2);
            c.due("without ACK", Check.arrives(x, 499, RST | m, 0, 24, 8, 0), 0);
            c.due("it stays SYN_SENT", x.state(0), 2);
            c.due("with ACK", Check.arrives(x, 499, RST | ACK | m, 101, 24, 8, 0), 0);
            c.due("it is CLOSED", x.state(0), 0);
            c.infos("RESET", x, 0, Check.ERROR, 1, Check.RETRY, -1);
            c.due("nothing is sent", Check.row(x), 0);
        }
    }

    private static void synSentAndSynAck(Check c) {
        c.says("Else SYN: RCV is its SEQ + 1, WND its WINDOW; with ACK: UNA is ACK, RETRY is not set, TRIES are 0, "
            + "TIMED (if it is) is MEASURED, state 4, an ACK is sent");
        int[][] seqs = {{499, 500}, {65535, 0}, {0, 1}};
        int[] windows = {0, 1, 24};
        for (int i = 0; i < 3; i++) {
            Wire x = Check.inState(2);
            x.tick(7);
            c.due("an ACK", Check.arrives(x, seqs[i][0], SYN | ACK, 101, windows[i], 0, 0), 1);
            c.segment("it", x, 0, 0, Check.head(101, ACK, seqs[i][1], 24));
            c.infos("R is 7: S 56, V 14", x, 0, Check.RCV, seqs[i][1], Check.WND, windows[i], Check.UNA, 101, Check.NXT, 101,
                Check.RETRY, -1, Check.TRIES, 0, Check.RTO, 21, Check.PEAK, 16, Check.WAITS, 0);
            c.due("ESTABLISHED", x.state(0), 4);
        }
        Wire x = Check.inState(2);
        x.tick(8);
        c.infos("sent again", x, 0, Check.TRIES, 1);
        x.tick(1);
        Check.arrives(x, 499, SYN | ACK, 101, 24, 0, 0);
        c.infos("nothing was TIMED", x, 0, Check.RTO, 16, Check.TRIES, 0, Check.RETRY, -1);
        x = Check.inState(2);
        x.tick(183);
        c.infos("five times, that is at 8, 24, 56, 120 and 184", x, 0, Check.TRIES, 4, Check.RETRY, 1);
        x.tick(1);
        c.infos("five times", x, 0, Check.TRIES, 5);
        Check.arrives(x, 499, SYN | ACK, 101, 24, 0, 0);
        c.infos("TRIES are 0", x, 0, Check.TRIES, 0, Check.RTO, 64);
    }

    private static void synSentAndSyn(Check c) {
        c.says("without: state 3, SYN and ACK are sent with SEQ ISS; then FLOW.");
        Wire x = Check.inState(2);
        Check.write(x, 3);
        x.tick(3);
        c.due("SYN and ACK", Check.arrives(x, 65535, SYN, 0, 11, 0, 0), 1);
        c.segment("it", x, 0, 0, Check.head(100, SYN | ACK, 0, 24));
        c.due("SYN_RECEIVED", x.state(0), 3);
        c.infos("RETRY stays", x, 0, Check.RCV, 0, Check.WND, 11, Check.UNA, 100, Check.NXT, 101, Check.RETRY, 5,
            Check.TRIES, 0, Check.RTO, 8, Check.KEPT, 3);
        x = Check.inState(2);
        Check.write(x, 3);
        c.due("FLOW behind the ACK in ESTABLISHED", Check.arrives(x, 499, SYN | ACK, 101, 2, 0, 0), 2);
        c.segment("as far as the window goes", x, 0, 1, Check.head(101, ACK, 500, 24), 1, 2);
    }

    private static void synSentElse(Check c) {
        c.says("then FLOW. Else nothing.");
        int[] flags = {0, FIN, ACK, ACK | FIN};
        for (int f : flags) {
            Wire x = Check.inState(2);
            Check.write(x, 3);
            c.due("flags " + f, Check.arrives(x, 499, f, 101, 24, 8, 0), 0);
            c.due("it stays SYN_SENT", x.state(0), 2);
            c.infos("nothing is taken", x, 0, Check.UNA, 100, Check.RCV, 0, Check.WND, 0, Check.UNREAD, 0, Check.HELD, 0,
                Check.RETRY, 8);
        }
    }
}
