/** Promise 1: a new object. */
public final class Promise01Test {
    public static void main(String[] args) {
        Check.bothWays(c -> {
            Wire x = new Wire();
            for (int end = 0; end < 2; end++) {
                c.due("state", x.state(end), 0);
                for (int what = 0; what <= 13; what++) {
                    c.due("info(" + end + ", " + what + ")", x.info(end, what), what == 10 ? -1 : 0);
                }
                c.due("the link is empty", x.wire(end, 0, -1), 0);
                c.due("nothing to deliver", x.deliver(end, 0), StreamWire.REFUSED);
                c.due("nothing to read", x.read(end, 1), -1);
            }
            c.due("nothing is set", x.tick(1000), 0);
            Wire y = new Wire();
            y.open(0, true, 1);
            c.due("objects share nothing", x.state(0), 0);
            c.due("REFUSED", StreamWire.REFUSED, -1);
            c.due("FULL", StreamWire.FULL, -2);
        });
    }
}
