/** Promise 2: open. */
public final class Promise02Test {
    public static void main(String[] args) {
        Check.bothWays(c -> {
            active(c);
            passive(c);
            wrongInputs(c);
            again(c);
        });
    }

    private static void active(Check c) {
        Wire x = new Wire();
        x.tick(5);
        c.due("active", x.open(0, true, 100), 2);
        c.segment("the SYN", x, 0, 0, Check.head(100, 1, 0, 24));
        c.due("one segment", x.wire(0, 0, -1), 1);
        c.infos("active", x, 0, Check.ERROR, 0, Check.KEPT, 0, Check.UNREAD, 0, Check.UNA, 100, Check.NXT, 101,
            Check.RCV, 0, Check.WND, 0, Check.PEAK, 16, Check.HALF, 64, Check.RTO, 8, Check.RETRY, 8,
            Check.WAITS, 0, Check.TRIES, 0, Check.HELD, 0);
        c.due("the greatest number", x.open(1, true, 65535), 2);
        c.infos("wrapped", x, 1, Check.UNA, 65535, Check.NXT, 0);
    }

    private static void passive(Check c) {
        Wire x = new Wire();
        c.due("passive", x.open(1, false, 0), 1);
        c.due("state", x.state(1), 1);
        c.due("nothing is sent", x.wire(1, 0, -1), 0);
        for (int what = 0; what <= 13; what++) {
            c.due("LISTEN: info " + what, x.info(1, what), what == 10 ? -1 : 0);
        }
    }

    private static void wrongInputs(Check c) {
        Wire x = new Wire();
        c.due("end -1", x.open(-1, true, 1), -1);
        c.due("end 2", x.open(2, false, 1), -1);
        c.due("iss -1", x.open(0, true, -1), -1);
        c.due("iss 65536", x.open(0, false, 65536), -1);
        c.due("still CLOSED", x.state(0), 0);
        c.due("nothing was sent", x.wire(0, 0, -1), 0);
        for (int s = 1; s <= 10; s++) {
            Wire y = Check.inState(s);
            c.due("state " + s, y.state(0), s);
            c.due("open in state " + s, y.open(0, true, 7), -1);
            c.due("open in state " + s, y.open(0, false, 7), -1);
            c.due("state " + s + " stays", y.state(0), s);
        }
    }

    /** An end that was used begins anew; the link and the time go on. */
    private static void again(Check c) {
        Wire x = Check.slow();
        Check.arrives(x, 500, 2, 101, 24, 3, 1);
        Check.arrives(x, 510, 2, 101, 0, 2, 9);
        x.write(0, 1, 8);
        x.tick(30);
        Check.arrives(x, 503, 8, 0, 0, 0, 0);
        c.infos("was reset", x, 0, Check.ERROR, 1, Check.UNREAD, 3, Check.KEPT, 0);
        int row = x.wire(0, 0, -1);
        c.due("open again", x.open(0, true, 9), 2);
        c.due("the link stays", x.wire(0, 0, -1), row + 1);
        c.infos("as at first", x, 0, Check.ERROR, 0, Check.KEPT, 0, Check.UNREAD, 0, Check.UNA, 9, Check.NXT, 10,
            Check.RCV, 0, Check.WND, 0, Check.PEAK, 16, Check.HALF, 64, Check.RTO, 8, Check.RETRY, 8,
            Check.WAITS, 0, Check.TRIES, 0, Check.HELD, 0);
        c.due("nothing to read", x.read(0, 7), 0);
        Check.clear(x, 0);
        x.tick(3);
        Check.arrives(x, 700, 3, 10, 5, 0, 0);
        c.infos("S and V are as at first, too", x, 0, Check.RTO, 9, Check.RCV, 701, Check.WND, 5);
        Check.arrives(x, 701, 2, 10, 7, 0, 0);
        c.infos("no segment of before set WND", x, 0, Check.WND, 7);
    }
}
