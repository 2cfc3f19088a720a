/** Promise 13: info. */
public final class Promise13Test {
    public static void main(String[] args) {
        Check.bothWays(c -> {
            for (int s = 0; s <= 10; s++) {
                Wire x = Check.inState(s);
                int[] wrong = {-1, 14, Integer.MIN_VALUE, Integer.MAX_VALUE};
                for (int what : wrong) {
                    c.due("what " + what + " in state " + s, x.info(0, what), -1);
                }
                c.due("end -1", x.info(-1, 0), -1);
                c.due("end 2", x.info(2, 0), -1);
            }
            Wire x = Check.slow();
            x.write(0, 0x0807060504030201L, 8);
            x.write(0, 0x0807060504030201L, 8);
            x.write(0, 3, 3);
            Check.arrives(x, 500, 2, 101, 20, 5, 1);
            c.infos("all of it", x, 0, Check.ERROR, 0, Check.KEPT, 19, Check.UNREAD, 5, Check.UNA, 101, Check.NXT, 117,
                Check.RCV, 505, Check.WND, 20, Check.PEAK, 16, Check.HALF, 64, Check.RTO, 18, Check.RETRY, 18,
                Check.WAITS, 1, Check.TRIES, 0, Check.HELD, 0);
            Check.arrives(x, 506, 2, 101, 20, 1, 1);
            c.infos("held", x, 0, Check.HELD, 1, Check.WAITS, 0);
            x.tick(18);
            c.infos("once again", x, 0, Check.UNA, 101, Check.NXT, 109, Check.PEAK, 8, Check.HALF, 8, Check.RTO, 36,
                Check.RETRY, 36, Check.TRIES, 1);
            x.abort(0);
            for (int what = 0; what <= 13; what++) {
                c.due("CLOSED: what " + what, x.info(0, what), what == 2 ? 5 : what == 10 ? -1 : 0);
            }
            x = Check.inState(2);
            c.infos("RCV and WND are 0 at first", x, 0, Check.RCV, 0, Check.WND, 0);
        });
    }
}
