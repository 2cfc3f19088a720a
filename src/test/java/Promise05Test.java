/** Promise 5: close. */
public final class Promise05Test {
    public static void main(String[] args) {
        Check.bothWays(c -> {
            int[] becomes = {-1, 0, 0, -1, 5, -1, -1, 9, -1, -1, -1};
            for (int s = 0; s <= 10; s++) {
                Wire x = Check.inState(s);
                c.due("close in state " + s, x.close(0), becomes[s]);
                c.due("then state", x.state(0), becomes[s] == -1 ? s : becomes[s]);
                boolean fin = s == 4 || s == 7;
                c.due("segments", x.wire(0, 0, -1), fin ? 1 : 0);
                if (fin) {
                    c.segment("the FIN", x, 0, 0, Check.head(101, 6, s == 4 ? 500 : 501, 24));
                    c.infos("behind the FIN", x, 0, Check.UNA, 101, Check.NXT, 102, Check.KEPT, 0, Check.RETRY, 2);
                }
            }
            Wire x = new Wire();
            c.due("end -1", x.close(-1), -1);
            c.due("end 2", x.close(2), -1);
            x = Check.inState(2);
            x.write(0, 1, 8);
            x.close(0);
            c.infos("nothing is kept or set", x, 0, Check.KEPT, 0, Check.RETRY, -1, Check.ERROR, 0);
            c.due("nothing is sent again", x.tick(100), 0);
            theFinWaitsForTheBytes(c);
        });
    }

    private static void theFinWaitsForTheBytes(Check c) {
        Wire x = Check.inState(4);
        x.write(0, 0x0807060504030201L, 8);
        x.write(0, 0x0C0B0A09L, 4);
        c.due("the 4 bytes wait for the ACK", x.wire(0, 0, -1), 1);
        c.due("close", x.close(0), 5);
        c.due("the FIN stays behind them", x.wire(0, 0, -1), 1);
        c.due("both are sent now", Check.arrives(x, 500, 2, 109, 24, 0, 0), 2);
        c.segment("the bytes", x, 0, 1, Check.head(109, 2, 500, 24), 9, 10, 11, 12);
        c.segment("the FIN", x, 0, 2, Check.head(113, 6, 500, 24));
        Check.arrives(x, 500, 2, 113, 24, 0, 0);
        c.due("the FIN is not acknowledged yet", x.state(0), 5);
        Check.arrives(x, 500, 2, 114, 24, 0, 0);
        c.due("now it is", x.state(0), 6);
        c.infos("all is acknowledged", x, 0, Check.UNA, 114, Check.NXT, 114, Check.RETRY, -1, Check.KEPT, 0);
    }
}
