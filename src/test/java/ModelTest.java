import java.util.ArrayDeque;
import java.util.Random;

/**
 * Long mixed runs of calls, the same at every start: StreamWire and Model must answer alike after each call.
 * A run has less than 512 calls that do something; those that look on the way don't count here.
 */
public final class ModelTest {
    private static final int RUNS = 4000, CALLS = 500;

    private final Random random;
    private final StreamWire wire = new StreamWire();
    private final Model model = new Model();
    private final ArrayDeque<String> calls = new ArrayDeque<>();
    /** How the run goes: how many of 100 calls lose, double, forge, or let time pass. */
    private final int loss, doubling, forging, ticking, wild, closing;
    private boolean wrong;

    private ModelTest(int seed) {
        random = new Random(seed);
        loss = random.nextInt(3) * 5;
        doubling = random.nextInt(3) * 4;
        forging = random.nextInt(4) * 6;
        ticking = 2 + random.nextInt(4) * 6;
        wild = random.nextInt(4) == 0 ? 10 : 1;
        closing = random.nextInt(4);
    }

    public static void main(String[] args) {
        for (int seed = 1; seed <= RUNS; seed++) {
            ModelTest run = new ModelTest(seed);
            run.start();
            for (int i = 0; i < CALLS && run.calls.size() < CALLS && !run.wrong; i++) {
                run.step();
            }
            if (run.wrong) {
                System.out.println("run " + seed + ", its calls:\n" + String.join("\n", run.calls));
                System.exit(1);
            }
        }
        System.out.println(RUNS + " runs are answered as the model answers them");
    }

    private void due(String call, long got, long want) {
        calls.add(call + " -> " + got);
        if (got != want) {
            calls.add("  due is " + want);
            wrong = true;
        }
        compare();
    }

    private void compare() {
        for (int end = 0; end < 2; end++) {
            same("state(" + end, wire.state(end), model.state(end));
            for (int what = 0; what <= 13; what++) {
                int got = wire.info(end, what);
                int want = model.info(end, what);
                if (got != want) {
                    same("info(" + end + ", " + what, got, want);
                }
            }
            int count = model.rows.get(end).size();
            same("wire(-1)", wire.wire(end, 0, -1), count);
            for (int k = Math.max(0, count - 4); k < count; k++) {
                for (int what = 0; what <= 12; what++) {
                    int got = wire.wire(end, k, what);
                    int want = model.wire(end, k, what);
                    if (got != want) {
                        same("wire(" + end + ", " + k + ", " + what, got, want);
                    }
                }
            }
        }
    }

    private void same(String what, int got, int want) {
        if (got != want) {
            calls.add("  " + what + ") is " + got + ", due is " + want);
            wrong = true;
        }
    }

    private void start() {
        if (random.nextInt(8) == 0) {
            return;
        }
        open(1, random.nextInt(8) == 0, number());
        open(0, true, number());
        if (random.nextInt(4) > 0) {
            deliver(0, 0);
            deliver(1, 0);
            deliver(0, 0);
        }
    }

    private int number() {
        int edge = random.nextInt(4);
        return edge == 0 ? 65535 - random.nextInt(40) : edge == 1 ? 32760 + random.nextInt(16) : random.nextInt(65536);
    }

    private void step() {
        int what = random.nextInt(100);
        int end = random.nextInt(2);
        if ((what -= loss) < 0) {
            int k = any(end);
            due("drop(" + end + ", " + k + ")", wire.drop(end, k), model.drop(end, k));
        } else if ((what -= doubling) < 0) {
            int k = any(end);
            due("twice(" + end + ", " + k + ")", wire.twice(end, k), model.twice(end, k));
        } else if ((what -= forging) < 0) {
            forgeNear(end);
        } else if ((what -= ticking) < 0) {
            int n = random.nextInt(12) == 0 ? 1 + random.nextInt(130) : 1 + random.nextInt(9);
            due("tick(" + n + ")", wire.tick(n), model.tick(n));
        } else if ((what -= wild) < 0) {
            wildCall(end);
        } else if ((what -= closing) < 0) {
            closeOrOpen(end);
        } else if ((what -= 14) < 0) {
            long bytes = random.nextLong();
            int n = random.nextInt(3) > 0 ? 8 : 1 + random.nextInt(8);
            due("write(" + end + ", " + bytes + "L, " + n + ")", wire.write(end, bytes, n), model.write(end, bytes, n));
        } else if ((what -= 10) < 0) {
            int n = 1 + random.nextInt(7);
            due("read(" + end + ", " + n + ")", wire.read(end, n), model.read(end, n));
        } else {
            deliver(end, random.nextInt(3) > 0 ? 0 : any(end));
        }
    }

    private int any(int end) {
        return random.nextInt(Math.max(1, model.rows.get(end).size()));
    }

    private void open(int end, boolean active, int iss) {
        due("open(" + end + ", " + active + ", " + iss + ")", wire.open(end, active, iss), model.open(end, active, iss));
    }

    private void deliver(int from, int k) {
        due("deliver(" + from + ", " + k + ")", wire.deliver(from, k), model.deliver(from, k));
    }

    private void closeOrOpen(int end) {
        if (model.state(end) == 0) {
            open(end, random.nextBoolean(), number());
        } else if (random.nextInt(12) == 0) {
            due("abort(" + end + ")", wire.abort(end), model.abort(end));
        } else {
            due("close(" + end + ")", wire.close(end), model.close(end));
        }
    }

    /** A segment whose numbers lie near to those that the end which gets it has. */
    private void forgeNear(int from) {
        Model.End to = model.ends[1 - from];
        int seq = to.rcv() + (random.nextBoolean() ? 0 : random.nextInt(44) - 12) & 65535;
        int ackKind = random.nextInt(4);
        int ack = to.number(ackKind == 0 ? to.max : ackKind == 1 ? to.una : to.una + random.nextInt(40) - 4);
        int flagKind = random.nextInt(12);
        int flags = flagKind < 7 ? 2 : flagKind < 9 ? 6 : flagKind == 9 ? random.nextInt(16) : flagKind == 10 ? 1 : 3;
        int windowKind = random.nextInt(3);
        int window = windowKind == 0 ? random.nextInt(25) : windowKind == 1 ? to.wnd % 25 : random.nextInt(3) * 12;
        int n = random.nextInt(2) * random.nextInt(9);
        int b = random.nextInt();
        int times = random.nextInt(6) == 0 ? 5 : 1;
        for (int i = 0; i < times; i++) {
            forge(from, seq, flags, ack, window, n, b);
            if (random.nextInt(4) > 0) {
                deliver(from, Math.max(0, model.rows.get(from).size() - 1));
            }
        }
    }

    private void forge(int from, int seq, int flags, int ack, int window, int n, int b) {
        due("forge(" + from + ", " + seq + ", " + flags + ", " + ack + ", " + window + ", " + n + ", " + b + ")",
            wire.forge(from, seq, flags, ack, window, n, b), model.forge(from, seq, flags, ack, window, n, b));
    }

    private int edge() {
        int[] edges = {-1, 0, 1, 2, 7, 8, 9, 15, 16, 24, 25, 1000, 1001, 65535, 65536,
            Integer.MIN_VALUE, Integer.MAX_VALUE, -2, 13, 14};
        return edges[random.nextInt(edges.length)];
    }

    private void wildCall(int e) {
        int end = random.nextInt(3) > 0 ? e : edge();
        int x = edge();
        int y = edge();
        switch (random.nextInt(12)) {
            case 0: due("open(" + end + ", true, " + x + ")", wire.open(end, true, x), model.open(end, true, x)); break;
            case 1: due("write(" + end + ", -1, " + x + ")", wire.write(end, -1, x), model.write(end, -1, x)); break;
            case 2: due("read(" + end + ", " + x + ")", wire.read(end, x), model.read(end, x)); break;
            case 3: due("close(" + end + ")", wire.close(end), model.close(end)); break;
            case 4: due("abort(" + x + ")", wire.abort(x), model.abort(x)); break;
            case 5: due("deliver(" + end + ", " + x + ")", wire.deliver(end, x), model.deliver(end, x)); break;
            case 6: due("drop(" + end + ", " + x + ")", wire.drop(end, x), model.drop(end, x)); break;
            case 7: due("twice(" + end + ", " + x + ")", wire.twice(end, x), model.twice(end, x)); break;
            case 8: forge(end, x, edge(), y, edge(), edge(), edge()); break;
            case 9: due("state(" + end + ")", wire.state(end), model.state(end)); break;
            case 10: due("info(" + end + ", " + x + ")", wire.info(end, x), model.info(end, x)); break;
            default: due("wire(" + end + ", " + x + ", " + y + ")", wire.wire(end, x, y), model.wire(end, x, y)); break;
        }
    }
}
