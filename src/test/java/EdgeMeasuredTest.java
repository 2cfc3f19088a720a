/** The edges of the terms MEASURED, RESET and CLOSED. */
public final class EdgeMeasuredTest {
    private static final int SYN = 1, ACK = 2, FIN = 4, RST = 8;

    public static void main(String[] args) {
        Check.bothWays(c -> {
            atFirst(c);
            later(c);
            leastAndMost(c);
            nothingIsTimed(c);
            reset(c);
            closed(c);
            closedByAll(c);
        });
    }

    private static void atFirst(Check c) {
        c.says("MEASURED with R, the time since TIMED: at first S is 8 R and V is 2 R");
        int[] rtos = {2, 3, 6, 9, 12, 15, 18, 21};
        for (int r = 0; r < rtos.length; r++) {
            c.infos("R " + r, Check.established(100, 500, 24, r), 0, Check.RTO, rtos[r]);
        }
    }

    /** A byte, and its ACK after so many ticks. */
    static void takes(Wire x, int ticks) {
        Check.write(x, 1);
        if (ticks > 0) {
            x.tick(ticks);
        }
        Check.acks(x, x.info(0, Check.NXT), 24);
    }

    private static void later(Check c) {
        c.says("later D = R - S / 8, S grows by D and V by |D| - V / 4.");
        Wire x = Check.slow();
        takes(x, 6);
        c.infos("D 0: S 48, V 12 - 3", x, 0, Check.RTO, 6 + 9);
        takes(x, 0);
        c.infos("D -6: S 42, V 9 + 6 - 2", x, 0, Check.RTO, 5 + 13);
        takes(x, 16);
        c.infos("D 11: S 53, V 13 + 11 - 3", x, 0, Check.RTO, 6 + 21);
        takes(x, 5);
        c.infos("D -1: S 52, V 21 + 1 - 5", x, 0, Check.RTO, 6 + 17);
        takes(x, 7);
        c.infos("D 1: S 53, V 17 + 1 - 4", x, 0, Check.RTO, 6 + 14);
        // R 0 at first: S 0, V 0.
        x = Check.inState(4);
        takes(x, 0);
        c.infos("D 0: S 0, V 0", x, 0, Check.RTO, 2);
        takes(x, 1);
        c.infos("D 1: S 1, V 1", x, 0, Check.RTO, 2);
        takes(x, 1);
        c.infos("D 1: S 2, V 2", x, 0, Check.RTO, 2);
        takes(x, 1);
        c.infos("D 1: S 3, V 3", x, 0, Check.RTO, 3);
        takes(x, 1);
        c.infos("D 1: S 4, V 4", x, 0, Check.RTO, 4);
        takes(x, 1);
        c.infos("D 1: S 5, V 4 + 1 - 1", x, 0, Check.RTO, 4);
    }

    private static void leastAndMost(Check c) {
        c.says("RTO is S / 8 + V, at least 2, at most 64");
        Wire x = Check.inState(4);
        c.infos("0", x, 0, Check.RTO, 2);
        x = Check.established(100, 500, 24, 1);
        c.infos("3", x, 0, Check.RTO, 3);
        takes(x, 1);
        c.infos("D 0: S 8, V 2: 3", x, 0, Check.RTO, 3);
        // S 56, V 14; S 69, V 24; S 92, V 41; then S 81 + R, V 20 + R.
        int[][] rows = {{29, 13 + 49}, {30, 13 + 50}, {31, 64}, {32, 64}, {51, 64}};
        for (int[] r : rows) {
            x = Check.established(100, 500, 24, 7);
            takes(x, 20);
            takes(x, 31);
            c.infos("11 + 41", x, 0, Check.RTO, 52);
            takes(x, r[0]);
            c.infos("R " + r[0], x, 0, Check.RTO, r[1]);
        }
        // S 132, V 71 though RTO is 64: D 0 - 16, S 116, V 71 + 16 - 17.
        takes(x, 0);
        c.infos("14 + 70", x, 0, Check.RTO, 64);
        takes(x, 14);
        c.infos("D 0: 14 + 70 - 17", x, 0, Check.RTO, 64);
        takes(x, 14);
        c.infos("D 0: 14 + 53 - 13", x, 0, Check.RTO, 54);
    }

    private static void nothingIsTimed(Check c) {
        c.says("at least 2, at most 64; nothing is TIMED.");
        Wire x = Check.slow();
        Check.write(x, 8);
        x.tick(5);
        Check.acks(x, 102, 24);
        c.infos("R 5", x, 0, Check.RTO, 15);
        x.tick(4);
        Check.acks(x, 109, 24);
        c.infos("nothing is TIMED", x, 0, Check.RTO, 15);
        takes(x, 9);
        c.infos("but the next byte is, R 9: S 51, V 12", x, 0, Check.RTO, 18);
    }

    private static void reset(Check c) {
        c.says("RESET: error 1 (but in 8, 9, 10), and CLOSED.");
        int[] errors = {0, 0, 1, 1, 1, 1, 1, 1, 0, 0, 0};
        for (int s = 2; s <= 10; s++) {
            Wire x = Check.inState(s);
            Check.arrives(x, s < 7 ? 500 : 501, s == 2 ? RST | ACK : RST, 101, 0, 0, 0);
            c.due("state " + s + " is CLOSED", x.state(0), 0);
            c.infos("error in state " + s, x, 0, Check.ERROR, errors[s], Check.RETRY, -1);
            c.due("nothing is sent", Check.row(x), 0);
            c.due("nothing is set", x.tick(1000), 0);
            x.open(0, false, 1);
            c.infos("no error after open()", x, 0, Check.ERROR, 0);
        }
    }

    /** End 0 with unread, held and kept bytes, an ACK that waits and RETRY set. */
    private static Wire busy() {
        Wire x = Check.inState(4);
        Check.write(x, 8, 8, 8);
        Check.arrives(x, 500, ACK, 101, 24, 2, 1);
        return x;
    }

    private static void closed(Check c) {
        c.says("CLOSED: nothing is kept, held or set; unread bytes stay until open().");
        Wire x = busy();
        c.infos("before", x, 0, Check.KEPT, 24, Check.WAITS, 1, Check.RETRY, 2);
        Check.arrives(x, 502, RST, 0, 0, 0, 0);
        c.infos("after", x, 0, Check.KEPT, 0, Check.WAITS, 0, Check.RETRY, -1, Check.UNREAD, 2);
        c.due("nothing is sent", x.tick(1000), 0);
        c.due("the bytes are there", x.read(0, 1), (1L << 56) + 1);
        c.infos("one is left", x, 0, Check.UNREAD, 1);
        c.due("open", x.open(0, false, 5), 1);
        c.infos("until open()", x, 0, Check.UNREAD, 0);
        c.due("until open()", x.read(0, 7), 0);
        // Bytes that were held by the end before must not come up in its next life.
        x = Check.inState(4);
        Check.arrives(x, 501, ACK, 101, 24, 8, 1);
        Check.arrives(x, 510, ACK | FIN, 101, 24, 0, 0);
        x.abort(0);
        x.open(0, true, 100);
        Check.arrives(x, 499, SYN | ACK, 101, 24, 0, 0);
        c.infos("nothing is held", x, 0, Check.HELD, 0);
        Check.arrives(x, 500, ACK, 101, 24, 1, 1);
        c.infos("one byte came", x, 0, Check.UNREAD, 1, Check.RCV, 501);
    }

    private static void closedByAll(Check c) {
        c.says("CLOSED: nothing is kept, held or set; unread bytes stay until open().");
        Wire x = busy();
        x.abort(0);
        c.infos("by abort", x, 0, Check.KEPT, 0, Check.UNREAD, 2);
        c.due("nothing is sent", x.tick(1000), 0);
        x = busy();
        x.tick(1000);
        c.due("by TRIES", x.state(0), 0);
        c.infos("by TRIES", x, 0, Check.KEPT, 0, Check.UNREAD, 2, Check.ERROR, 2);
        x = Check.inState(2);
        Check.write(x, 8);
        x.close(0);
        c.infos("by close", x, 0, Check.KEPT, 0);
        c.due("nothing is sent", x.tick(1000), 0);
        x = Check.unread(2);
        Check.arrives(x, 502, ACK | FIN, 101, 24, 0, 0);
        x.close(0);
        Check.arrives(x, 503, ACK, 102, 24, 0, 0);
        c.due("by the last ACK", x.state(0), 0);
        c.infos("by the last ACK", x, 0, Check.UNREAD, 2);
        c.due("nothing is sent", x.tick(1000), 0);
        x = Check.unread(2);
        x.close(0);
        Check.arrives(x, 502, ACK | FIN, 102, 24, 0, 0);
        c.due("TIME_WAIT", x.state(0), 10);
        x.tick(20);
        c.due("by WAIT", x.state(0), 0);
        c.infos("by WAIT", x, 0, Check.UNREAD, 2);
        // A WAIT that was set is not set in the next life.
        x = Check.inState(10);
        x.tick(5);
        x.abort(0);
        x.open(0, false, 5);
        x.tick(1000);
        c.due("no WAIT", x.state(0), 1);
        // A number that was TIMED is not TIMED in the next life, where the SYN is.
        x = Check.inState(2);
        x.tick(2);
        x.close(0);
        x.open(0, true, 300);
        x.tick(1);
        Check.arrives(x, 499, SYN | ACK, 301, 24, 0, 0);
        c.infos("R is 1", x, 0, Check.RTO, 3);
    }
}
