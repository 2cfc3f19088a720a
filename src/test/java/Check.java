import java.util.function.Consumer;

/** What the tests share: the count of wrong answers, and ends brought into a state. */
final class Check {
    static final int SYN = 1, ACK = 2, FIN = 4, RST = 8;
    static final int ERROR = 0, KEPT = 1, UNREAD = 2, UNA = 3, NXT = 4, RCV = 5, WND = 6, PEAK = 7, HALF = 8,
        RTO = 9, RETRY = 10, WAITS = 11, TRIES = 12, HELD = 13;

    private int wrong;
    private String sentence;

    /** Runs a test as it stands and with the ends exchanged; the exit code is 1 if an answer was not as due. */
    static void bothWays(Consumer<Check> test) {
        Check c = new Check();
        Wire.exchange(false);
        test.accept(c);
        Wire.exchange(true);
        test.accept(c);
        c.end();
    }

    /** The words of the document that the answers asked for from now on are due by; SentencesTest looks them up. */
    void says(String words) {
        sentence = words;
    }

    void due(String call, long got, long want) {
        if (got != want) {
            wrong++;
            System.out.println(call + " answered " + got + ", due is " + want
                + (Wire.isExchanged() ? ", with the ends exchanged" : "") + (sentence == null ? "" : ", by: " + sentence));
        }
    }

    /** Nothing that can be seen from outside is other than it was in the picture before. */
    void unchanged(String name, Wire x, String before) {
        due(name + " changes nothing", picture(x).equals(before) ? 1 : 0, 1);
    }

    static String picture(Wire x) {
        StringBuilder all = new StringBuilder();
        for (int end = 0; end < 2; end++) {
            all.append(x.state(end));
            for (int what = 0; what <= 13; what++) {
                all.append(' ').append(x.info(end, what));
            }
            all.append(rowPicture(x, end));
        }
        return all.toString();
    }

    static String rowPicture(Wire x, int from) {
        StringBuilder row = new StringBuilder();
        int count = x.wire(from, 0, -1);
        for (int k = 0; k < count; k++) {
            int bytes = x.wire(from, k, 4);
            for (int what = 0; what < 5 + bytes; what++) {
                row.append(' ').append(x.wire(from, k, what));
            }
            row.append('\n');
        }
        return row.toString();
    }

    void end() {
        if (Wire.mostCalls() > Wire.CALLS_MOST) {
            wrong++;
            System.out.println("an object had " + Wire.mostCalls() + " calls: nothing is promised about that");
        }
        System.out.println(wrong == 0 ? "all answers are as due" : wrong + " answers are not as due");
        if (wrong != 0) {
            System.exit(1);
        }
    }

    /** Segment k of a row, whole; bytes are its bytes, each. */
    void segment(String name, Wire x, int from, int k, int[] seqFlagsAckWindow, int... bytes) {
        for (int what = 0; what < 4; what++) {
            due(name + ": wire(" + from + ", " + k + ", " + what + ")", x.wire(from, k, what), seqFlagsAckWindow[what]);
        }
        due(name + ": wire(" + from + ", " + k + ", 4)", x.wire(from, k, 4), bytes.length);
        for (int i = 0; i < bytes.length; i++) {
            due(name + ": wire(" + from + ", " + k + ", " + (5 + i) + ")", x.wire(from, k, 5 + i), bytes[i]);
        }
        due(name + ": wire(" + from + ", " + k + ", " + (5 + bytes.length) + ")",
            x.wire(from, k, 5 + bytes.length), StreamWire.REFUSED);
    }

    static int[] head(int seq, int flags, int ack, int window) {
        return new int[] {seq, flags, ack, window};
    }

    /** Pairs of what and the answer of info that is due. */
    void infos(String name, Wire x, int end, int... pairs) {
        for (int i = 0; i < pairs.length; i += 2) {
            due(name + ": info(" + end + ", " + pairs[i] + ")", x.info(end, pairs[i]), pairs[i + 1]);
        }
    }

    static void clear(Wire x, int from) {
        for (int count = x.wire(from, 0, -1); count > 0; count--) {
            x.drop(from, 0);
        }
    }

    /** A forged segment arrives at end 0: how many it sent then. */
    static int arrives(Wire x, int seq, int flags, int ack, int window, int n, int b) {
        int count = x.forge(1, seq, flags, ack, window, n, b);
        return x.deliver(1, count - 1);
    }

    /** End 0 in the state s, with an empty link: ISS 100, RCV 500 before a FIN, WND 24, time 0. */
    static Wire inState(int s) {
        Wire x = new Wire();
        if (s == 1 || s == 3) {
            x.open(0, false, 100);
        } else if (s >= 2) {
            x.open(0, true, 100);
        }
        if (s == 3) {
            arrives(x, 499, SYN, 0, 24, 0, 0);
        }
        if (s >= 4) {
            arrives(x, 499, SYN | ACK, 101, 24, 0, 0);
        }
        if (s == 7 || s == 9) {
            arrives(x, 500, FIN | ACK, 101, 24, 0, 0);
        }
        if (s == 5 || s == 6 || s >= 8) {
            x.close(0);
        }
        if (s == 6 || s == 10) {
            arrives(x, 500, ACK, 102, 24, 0, 0);
        }
        if (s == 8) {
            arrives(x, 500, FIN | ACK, 101, 24, 0, 0);
        }
        if (s == 10) {
            arrives(x, 500, FIN | ACK, 102, 24, 0, 0);
        }
        clear(x, 0);
        return x;
    }

    /** Both ends ESTABLISHED with an empty link, at time 0; by that each RTO is 2. */
    static Wire connected(int iss0, int iss1) {
        Wire x = new Wire();
        x.open(1, false, iss1);
        x.open(0, true, iss0);
        x.deliver(0, 0);
        x.deliver(1, 0);
        x.deliver(0, 0);
        return x;
    }

    /** As state 4, but the SYN took 6 ticks to come back: S is 48, V 12 and the RTO 18. */
    static Wire slow() {
        return established(100, 500, 24, 6);
    }

    /** End 0 in ESTABLISHED with these numbers and a SYN that took so many ticks; the link is empty. */
    static Wire established(int iss, int rcv, int window, int ticks) {
        Wire x = new Wire();
        x.open(0, true, iss);
        if (ticks > 0) {
            x.tick(ticks);
        }
        arrives(x, rcv - 1 & 65535, SYN | ACK, iss + 1 & 65535, window, 0, 0);
        clear(x, 0);
        return x;
    }

    /** End 0 as in state 4, but with count unread bytes 0, 1, .. from 500 on; nothing waits, the link is empty. */
    static Wire unread(int count) {
        Wire x = inState(4);
        for (int i = 0; i < count; i += 8) {
            arrives(x, 500 + i, ACK, 101, 24, Math.min(8, count - i), i);
        }
        x.tick(2);
        clear(x, 0);
        return x;
    }

    /** As state 4, but with a WINDOW that an ACK with the SEQ 500 told. */
    static Wire window(int told) {
        Wire x = inState(4);
        arrives(x, 500, ACK, 101, told, 0, 0);
        return x;
    }

    /** The row from end 0 has count segments, by forged ones behind what it has. */
    static void fill(Wire x, int count) {
        for (int there = x.wire(0, 0, -1); there < count; there++) {
            x.forge(0, 7, ACK, 7, 7, 0, 0);
        }
    }

    /** An ACK alone with the SEQ 500 arrives at end 0: how many it sent then. */
    static int acks(Wire x, int ack, int window) {
        return arrives(x, 500, ACK, ack, window, 0, 0);
    }

    static void write(Wire x, int... counts) {
        for (int n : counts) {
            x.write(0, 0x0807060504030201L, n);
        }
    }

    static int row(Wire x) {
        return x.wire(0, 0, -1);
    }

    /** The SEQ of an ACK alone that end 0 sends, which is MAX. */
    static int max(Wire x) {
        arrives(x, x.info(0, RCV) + 30000 & 65535, ACK, 0, 0, 0, 0);
        int seq = x.wire(0, row(x) - 1, 0);
        x.drop(0, row(x) - 1);
        return seq;
    }
}
