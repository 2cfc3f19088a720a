/**
 * A StreamWire as the tests use it. Both ends keep the same promises, so each test runs twice, the second
 * time with its ends exchanged; and as nothing is promised after the 512th call, calls are counted.
 */
final class Wire {
    static final int CALLS_MOST = 512;

    private static boolean exchanged;
    private static int mostCalls;

    private final StreamWire wire = new StreamWire();
    private int calls;

    static void exchange(boolean ends) {
        exchanged = ends;
    }

    static boolean isExchanged() {
        return exchanged;
    }

    /** The most calls that one object has had. */
    static int mostCalls() {
        return mostCalls;
    }

    private int end(int end) {
        count();
        return exchanged && (end == 0 || end == 1) ? 1 - end : end;
    }

    private void count() {
        calls++;
        mostCalls = Math.max(mostCalls, calls);
    }

    int open(int end, boolean active, int iss) {
        return wire.open(end(end), active, iss);
    }

    int write(int end, long bytes, int n) {
        return wire.write(end(end), bytes, n);
    }

    long read(int end, int n) {
        return wire.read(end(end), n);
    }

    int close(int end) {
        return wire.close(end(end));
    }

    int abort(int end) {
        return wire.abort(end(end));
    }

    int deliver(int from, int k) {
        return wire.deliver(end(from), k);
    }

    int drop(int from, int k) {
        return wire.drop(end(from), k);
    }

    int twice(int from, int k) {
        return wire.twice(end(from), k);
    }

    int forge(int from, int seq, int flags, int ack, int window, int n, int b) {
        return wire.forge(end(from), seq, flags, ack, window, n, b);
    }

    int tick(int n) {
        count();
        return wire.tick(n);
    }

    int state(int end) {
        return wire.state(end(end));
    }

    int info(int end, int what) {
        return wire.info(end(end), what);
    }

    int wire(int from, int k, int what) {
        return wire.wire(end(from), k, what);
    }
}
