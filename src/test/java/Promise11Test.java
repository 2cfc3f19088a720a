/** Promise 11: tick. */
public final class Promise11Test {
    public static void main(String[] args) {
        Check.bothWays(c -> {
            Wire x = new Wire();
            x.open(0, true, 100);
            x.open(1, true, 500);
            c.due("n 0", x.tick(0), -1);
            c.due("n -1", x.tick(-1), -1);
            c.due("n 1001", x.tick(1001), -1);
            c.infos("no time went by", x, 0, Check.RETRY, 8);
            c.due("one", x.tick(1), 0);
            c.infos("one tick", x, 0, Check.RETRY, 7);
            c.due("before RETRY", x.tick(6), 0);
            c.due("both SYNs again", x.tick(1), 2);
            c.due("rows", x.wire(0, 0, -1) * 10 + x.wire(1, 0, -1), 22);
            c.infos("doubled", x, 0, Check.RTO, 16, Check.RETRY, 16, Check.TRIES, 1);
            // Again at 24, 56, 120 and 184, that is 5 times; at 248 both are CLOSED.
            c.due("till they give up", x.tick(1000), 8);
            c.due("state", x.state(0) * 10 + x.state(1), 0);
            c.infos("error 2", x, 0, Check.ERROR, 2);
            c.infos("error 2", x, 1, Check.ERROR, 2);
            c.due("nothing more", x.tick(1000), 0);
            lostOnesCount(c);
        });
    }

    private static void lostOnesCount(Check c) {
        Wire x = new Wire();
        for (int i = 0; i < 16; i++) {
            x.forge(0, i, 2, 0, 0, 0, 0);
        }
        x.open(0, true, 100);
        c.due("the SYN is lost, too", x.wire(0, 15, 0), 15);
        c.infos("but it was sent", x, 0, Check.NXT, 101, Check.RETRY, 8);
        c.due("and is sent again", x.tick(8), 1);
        c.due("the row has 16 still", x.wire(0, 0, -1), 16);
    }
}
