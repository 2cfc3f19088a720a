/** Promise 6: abort. */
public final class Promise06Test {
    public static void main(String[] args) {
        Check.bothWays(c -> {
            int[] nxt = {0, 0, 0, 101, 101, 102, 102, 101, 102, 102, 102};
            for (int s = 0; s <= 10; s++) {
                Wire x = Check.inState(s);
                c.due("abort in state " + s, x.abort(0), s == 0 ? -1 : s);
                c.due("state", x.state(0), 0);
                boolean tells = s >= 3 && s <= 9;
                c.due("segments in state " + s, x.wire(0, 0, -1), tells ? 1 : 0);
                if (tells) {
                    c.segment("the RST in state " + s, x, 0, 0, Check.head(nxt[s], 8, 0, 0));
                }
                c.infos("no error", x, 0, Check.ERROR, 0, Check.RETRY, -1);
                c.due("nothing is set", x.tick(200), 0);
                c.due("once more", x.abort(0), -1);
            }
            Wire x = new Wire();
            c.due("end -1", x.abort(-1), -1);
            c.due("end 2", x.abort(2), -1);
            x = Check.inState(4);
            x.write(0, 1, 8);
            x.write(0, 1, 3);
            Check.arrives(x, 505, 2, 101, 24, 2, 1);
            x.abort(0);
            c.segment("SEQ is NXT", x, 0, 2, Check.head(109, 8, 0, 0));
            c.infos("nothing is kept or held", x, 0, Check.KEPT, 0, Check.HELD, 0, Check.UNREAD, 0);
            x = Check.inState(4);
            x.write(0, 1, 8);
            x.write(0, 1, 8);
            x.tick(2);
            Check.clear(x, 0);
            x.abort(0);
            c.segment("SEQ is NXT, not MAX", x, 0, 0, Check.head(109, 8, 0, 0));
        });
    }
}
