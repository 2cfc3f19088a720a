import java.util.Random;

/**
 * Rules 7 and 11 of LANGUAGE.md: no call throws, whatever its arguments and however many calls came before (what is
 * answered after the 512th is free, that it answers is not), and the same calls always give the same answers.
 * The calls are the same at every start.
 */
public final class AnyCallTest {
    private static final int RUNS = 120, CALLS = 6000;
    private static final int[] EDGES = {-2, -1, 0, 1, 2, 3, 6, 7, 8, 9, 12, 13, 14, 15, 16, 17, 24, 25, 31, 32, 33, 255, 256,
        999, 1000, 1001, 32767, 32768, 65534, 65535, 65536, Integer.MAX_VALUE, Integer.MIN_VALUE, Integer.MIN_VALUE + 1};

    private final Random random;
    private final StreamWire wire = new StreamWire();
    /** How many of 100 arguments may be out of their range. */
    private final int wild;

    private AnyCallTest(int seed) {
        random = new Random(seed);
        wild = seed % 3 * 15;
    }

    public static void main(String[] args) {
        Check check = new Check();
        for (int seed = 0; seed < RUNS; seed++) {
            check.due("run " + seed + " a second time", new AnyCallTest(seed).run(), new AnyCallTest(seed).run());
        }
        check.end();
    }

    /** A sum over all answers. */
    private long run() {
        long sum = 0;
        for (int i = 0; i < CALLS; i++) {
            sum = 31 * sum + call();
        }
        return sum;
    }

    private int pick(int least, int most) {
        if (random.nextInt(100) < wild) {
            return random.nextBoolean() ? EDGES[random.nextInt(EDGES.length)] : random.nextInt();
        }
        return least + random.nextInt(most - least + 1);
    }

    private long call() {
        int end = pick(0, 1);
        switch (random.nextInt(24)) {
            case 0: return wire.open(end, random.nextBoolean(), pick(0, 65535));
            case 1: return random.nextInt(6) > 0 ? 0 : wire.close(end);
            case 2: return random.nextInt(20) > 0 ? 0 : wire.abort(end);
            case 3:
            case 4:
            case 5: return wire.write(end, random.nextLong(), pick(1, 8));
            case 6:
            case 7: return wire.read(end, pick(1, 7));
            case 8: return wire.drop(end, pick(0, 15));
            case 9: return wire.twice(end, pick(0, 3));
            case 10:
            case 11: return forge(end);
            case 12: return wire.tick(pick(1, random.nextInt(9) > 0 ? 6 : 200));
            case 13: return wire.state(end);
            case 14: return wire.info(end, pick(0, 13));
            case 15: return wire.wire(end, pick(0, 15), pick(-1, 12));
            default: return wire.deliver(end, pick(0, random.nextInt(3) > 0 ? 0 : 5));
        }
    }

    private int forge(int from) {
        int seq = wire.info(1 - from, 5) + random.nextInt(40) - 10 & 65535;
        int ack = wire.info(1 - from, 3) + random.nextInt(40) - 4 & 65535;
        int flags = random.nextBoolean() ? 2 : pick(0, 15);
        boolean near = random.nextInt(100) >= wild;
        return wire.forge(from, near ? seq : pick(0, 65535), flags, near ? ack : pick(0, 65535), pick(0, 24), pick(0, 8),
            random.nextInt());
    }
}
