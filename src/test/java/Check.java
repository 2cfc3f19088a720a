/** What the tests share: the count of wrong answers, and ends brought into a state. */
final class Check {
    static final int SYN = 1, ACK = 2, FIN = 4, RST = 8;
    static final int ERROR = 0, KEPT = 1, UNREAD = 2, UNA = 3, NXT = 4, RCV = 5, WND = 6, PEAK = 7, HALF = 8,
        RTO = 9, RETRY = 10, WAITS = 11, TRIES = 12, HELD = 13;

    private int wrong;

    void due(String call, long got, long want) {
        if (got != want) {
            wrong++;
            System.out.println(call + " answered " + got + ", due is " + want);
        }
    }

    void end() {
        System.out.println(wrong == 0 ? "all answers are as due" : wrong + " answers are not as due");
        if (wrong != 0) {
            System.exit(1);
        }
    }

    /** Segment k of a row, whole; bytes are its bytes, each. */
    void segment(String name, StreamWire x, int from, int k, int[] seqFlagsAckWindow, int... bytes) {
        for (int what = 0; what < 4; what++) {
            due(name + ": wire(" + from + ", " + k + ", " + what + ")", x.wire(from, k, what), seqFlagsAckWindow[what]);
        }
        due(name + ": wire(" + from + ", " + k + ", 4)", x.wire(from, k, 4), bytes.length);
        for (int i = 0; i < bytes.length; i++) {
            due(name + ": wire(" + from + ", " + k + ", " + (5 + i) + ")", x.wire(from, k, 5 + i), bytes[i]);
        }
        due(name + ": wire(" + from + ", " + k + ", " + (5 + bytes.length) + ")",
            x.wire(from, k, 5 + bytes.length), StreamWire.REFUSED);
    }

    static int[] head(int seq, int flags, int ack, int window) {
        return new int[] {seq, flags, ack, window};
    }

    /** Pairs of what and the answer of info that is due. */
    void infos(String name, StreamWire x, int end, int... pairs) {
        for (int i = 0; i < pairs.length; i += 2) {
            due(name + ": info(" + end + ", " + pairs[i] + ")", x.info(end, pairs[i]), pairs[i + 1]);
        }
    }

    static void clear(StreamWire x, int from) {
        while (x.wire(from, 0, -1) > 0) {
            x.drop(from, 0);
        }
    }

    /** A forged segment arrives at end 0: how many it sent then. */
    static int arrives(StreamWire x, int seq, int flags, int ack, int window, int n, int b) {
        int count = x.forge(1, seq, flags, ack, window, n, b);
        return x.deliver(1, count - 1);
    }

    /** End 0 in the state s, with an empty link: ISS 100, RCV 500 before a FIN, WND 24, time 0. */
    static StreamWire inState(int s) {
        StreamWire x = new StreamWire();
        if (s == 1 || s == 3) {
            x.open(0, false, 100);
        } else if (s >= 2) {
            x.open(0, true, 100);
        }
        if (s == 3) {
            arrives(x, 499, SYN, 0, 24, 0, 0);
        }
        if (s >= 4) {
            arrives(x, 499, SYN | ACK, 101, 24, 0, 0);
        }
        if (s == 7 || s == 9) {
            arrives(x, 500, FIN | ACK, 101, 24, 0, 0);
        }
        if (s == 5 || s == 6 || s >= 8) {
            x.close(0);
        }
        if (s == 6 || s == 10) {
            arrives(x, 500, ACK, 102, 24, 0, 0);
        }
        if (s == 8) {
            arrives(x, 500, FIN | ACK, 101, 24, 0, 0);
        }
        if (s == 10) {
            arrives(x, 500, FIN | ACK, 102, 24, 0, 0);
        }
        clear(x, 0);
        return x;
    }

    /** Both ends ESTABLISHED with an empty link, at time 0; by that each RTO is 2. */
    static StreamWire connected(int iss0, int iss1) {
        StreamWire x = new StreamWire();
        x.open(1, false, iss1);
        x.open(0, true, iss0);
        x.deliver(0, 0);
        x.deliver(1, 0);
        x.deliver(0, 0);
        return x;
    }

    /** As state 4, but the SYN took 6 ticks to come back: S is 48, V 12 and the RTO 18. */
    static StreamWire slow() {
        StreamWire x = new StreamWire();
        x.open(0, true, 100);
        x.tick(6);
        arrives(x, 499, SYN | ACK, 101, 24, 0, 0);
        clear(x, 0);
        return x;
    }
}
