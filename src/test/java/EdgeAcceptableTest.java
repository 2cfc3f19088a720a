/** The edges of steps (1) to (4) of A SEGMENT ARRIVES. */
public final class EdgeAcceptableTest {
    private static final int SYN = 1, ACK = 2, FIN = 4, RST = 8;

    public static void main(String[] args) {
        Check.bothWays(c -> {
            lengthZero(c);
            lengthAboveZero(c);
            whatCountsInLength(c);
            everyState(c);
            notAcceptable(c);
            aFinInTimeWait(c);
            noTimeWait(c);
            aRst(c);
            aSyn(c);
            noAck(c);
        });
    }

    /**
     * A RST tells whether it is acceptable: no answer if not, else RESET where o is 0 and an ACK elsewhere.
     * The end has the given window and RCV 524 - window.
     */
    private static void acceptable(Check c, int window, int o, int flags, int n, boolean due) {
        Wire x = Check.unread(24 - window);
        String name = "window " + window + ", o " + o + ", flags " + flags + ", " + n + " bytes";
        int sent = Check.arrives(x, 524 - window + o & 65535, RST | flags, 0, 0, n, 0);
        c.due(name + ": sent", sent, due && o != 0 ? 1 : 0);
        c.due(name + ": state", x.state(0), due && o == 0 ? 0 : 4);
    }

    private static void lengthZero(Check c) {
        c.says("In other states, let o be the offset of SEQ from RCV, w the own window. (1) It is ACCEPTABLE if, for LENGTH 0, "
            + "0 <= o <= w");
        int[] windows = {24, 8, 1, 0};
        for (int w : windows) {
            acceptable(c, w, -1, 0, 0, false);
            acceptable(c, w, 0, 0, 0, true);
            acceptable(c, w, w, 0, 0, true);
            acceptable(c, w, w + 1, 0, 0, false);
            acceptable(c, w, 32767, 0, 0, false);
            acceptable(c, w, -32768, 0, 0, false);
        }
    }

    private static void lengthAboveZero(Check c) {
        c.says("else if 0 <= o < w or 0 <= o + LENGTH - 1 < w.");
        int[] windows = {24, 8};
        for (int w : windows) {
            acceptable(c, w, -1, 0, 1, false);
            acceptable(c, w, 0, 0, 1, true);
            acceptable(c, w, w - 1, 0, 1, true);
            acceptable(c, w, w, 0, 1, false);
            acceptable(c, w, -8, 0, 8, false);
            acceptable(c, w, -7, 0, 8, true);
            acceptable(c, w, w - 1, 0, 8, true);
            acceptable(c, w, w, 0, 8, false);
            acceptable(c, w, 32767, 0, 8, false);
            acceptable(c, w, -32768, 0, 8, false);
        }
        // Both ends of the segment lie outside a small window that it covers.
        acceptable(c, 1, -7, 0, 8, true);
        acceptable(c, 1, -6, 0, 8, false);
        acceptable(c, 1, -1, 0, 8, false);
        acceptable(c, 1, 0, 0, 8, true);
        acceptable(c, 1, 1, 0, 8, false);
        acceptable(c, 2, -6, 0, 8, true);
        acceptable(c, 2, -5, 0, 8, false);
        for (int o = -8; o <= 1; o++) {
            acceptable(c, 0, o, 0, 8, false);
            acceptable(c, 0, o, 0, 1, false);
        }
    }

    private static void whatCountsInLength(Check c) {
        c.says("else if 0 <= o < w or 0 <= o + LENGTH - 1 < w.");
        int[] flags = {SYN, FIN};
        for (int f : flags) {
            acceptable(c, 24, -1, f, 0, false);
            acceptable(c, 24, -1, f, 1, true);
            acceptable(c, 24, -8, f, 8, true);
            acceptable(c, 24, -9, f, 8, false);
            acceptable(c, 24, 24, f, 0, false);
            acceptable(c, 24, 23, f, 0, true);
            acceptable(c, 0, 0, f, 0, false);
        }
        acceptable(c, 24, -1, SYN | FIN, 0, true);
        acceptable(c, 24, -2, SYN | FIN, 0, false);
        acceptable(c, 24, -9, SYN | FIN, 8, true);
        acceptable(c, 24, -10, SYN | FIN, 8, false);
    }

    private static void everyState(Check c) {
        c.says("In other states, let o be the offset of SEQ from RCV, w the own window.");
        for (int s = 3; s <= 10; s++) {
            Wire x = Check.inState(s);
            int rcv = s < 7 ? 500 : 501;
            c.due("behind the window in state " + s, Check.arrives(x, rcv + 25, RST, 0, 0, 0, 0), 0);
            c.due("before it in state " + s, Check.arrives(x, rcv - 1, RST, 0, 0, 0, 0), 0);
            c.due("its edge in state " + s, Check.arrives(x, rcv + 24, RST, 0, 0, 0, 0), 1);
            c.due("state " + s, x.state(0), s);
        }
    }

    private static void notAcceptable(Check c) {
        c.says("unless it is a RST an ACK is sent; that is all.");
        for (int s = 3; s <= 10; s++) {
            for (int flags = 0; flags <= 15; flags++) {
                Wire x = Check.inState(s);
                int rcv = s < 7 ? 500 : 501;
                int una = x.info(0, Check.UNA);
                String before = Check.picture(x);
                int ack = s == 3 || s == 5 || s == 8 || s == 9 ? una + 1 : una;
                boolean answers = (flags & RST) == 0;
                c.due("flags " + flags + " in state " + s, Check.arrives(x, rcv + 30, flags, ack, 5, 8, 1), answers ? 1 : 0);
                if (answers) {
                    c.segment("an ACK in state " + s, x, 0, 0, Check.head(s == 3 || s == 4 || s == 7 ? 101 : 102, ACK, rcv, 24));
                    x.drop(0, 0);
                }
                c.unchanged("flags " + flags + " in state " + s, x, before);
            }
        }
    }

    private static void aFinInTimeWait(Check c) {
        c.says("If it is not: in TIME_WAIT a FIN sets WAIT to now + 20");
        int[] flags = {FIN, FIN | ACK, FIN | SYN, FIN | RST, 15};
        for (int f : flags) {
            Wire x = Check.inState(10);
            x.tick(19);
            c.due("flags " + f, Check.arrives(x, 499, f, 102, 24, 0, 0), (f & RST) == 0 ? 1 : 0);
            x.tick(19);
            c.due("19 ticks later", x.state(0), 10);
            x.tick(1);
            c.due("20 ticks later", x.state(0), 0);
        }
    }

    private static void noTimeWait(Check c) {
        c.says("If it is not: in TIME_WAIT a FIN sets WAIT to now + 20");
        Wire x = Check.inState(10);
        x.tick(19);
        Check.arrives(x, 499, ACK, 102, 24, 0, 0);
        x.tick(1);
        c.due("no FIN: WAIT stays", x.state(0), 0);
        x = Check.inState(10);
        x.tick(19);
        c.due("an ACK", Check.arrives(x, 501, FIN | ACK, 102, 24, 0, 0), 1);
        x.tick(1);
        c.due("it is acceptable: WAIT stays", x.state(0), 0);
        for (int s = 3; s <= 9; s++) {
            x = Check.inState(s);
            Check.arrives(x, 400, FIN | ACK, 101, 24, 0, 0);
            x.tick(20);
            c.due("another state: no WAIT in " + s, x.state(0), s);
        }
    }

    private static void aRst(Check c) {
        c.says("(2) RST: with o = 0 the end is RESET, else an ACK is sent; that is all.");
        int[] more = {0, ACK, SYN, FIN, ACK | SYN | FIN};
        for (int m : more) {
            Wire x = Check.inState(4);
            Check.write(x, 8);
            c.due("o 1", Check.arrives(x, 501, RST | m, 109, 5, 1, 0), 1);
            c.segment("an ACK", x, 0, 1, Check.head(109, ACK, 500, 24));
            c.infos("that is all", x, 0, Check.UNA, 101, Check.WND, 24, Check.HELD, 0);
            c.due("o 23", Check.arrives(x, 523, RST | m, 109, 5, 0, 0), 1);
            c.due("o -1", Check.arrives(x, 499, RST | m, 109, 5, 8, 0), 1);
            c.infos("that is all", x, 0, Check.UNA, 101, Check.WND, 24, Check.UNREAD, 0);
            c.due("ESTABLISHED", x.state(0), 4);
            c.due("o 0", Check.arrives(x, 500, RST | m, 109, 5, 8, 0), 0);
            c.due("CLOSED", x.state(0), 0);
            c.infos("RESET", x, 0, Check.ERROR, 1, Check.UNREAD, 0, Check.KEPT, 0);
        }
        Wire x = Check.unread(24);
        Check.arrives(x, 524, RST, 0, 0, 0, 0);
        c.due("o 0 with a window of 0", x.state(0), 0);
    }

    private static void aSyn(Check c) {
        c.says("(3) SYN: an ACK is sent; that is all.");
        int[] more = {0, ACK, FIN, ACK | FIN};
        int[] seqs = {500, 501, 523, 495};
        for (int m : more) {
            for (int seq : seqs) {
                Wire x = Check.inState(4);
                Check.write(x, 8);
                c.due("SEQ " + seq, Check.arrives(x, seq, SYN | m, 109, 5, 8, 0), 1);
                c.segment("an ACK", x, 0, 1, Check.head(109, ACK, 500, 24));
                c.infos("that is all", x, 0, Check.UNA, 101, Check.WND, 24, Check.UNREAD, 0, Check.HELD, 0, Check.RCV, 500);
                c.due("ESTABLISHED", x.state(0), 4);
            }
        }
    }

    private static void noAck(Check c) {
        c.says("(4) No ACK: that is all.");
        int[] flags = {0, FIN};
        for (int s = 3; s <= 10; s++) {
            for (int f : flags) {
                Wire x = Check.inState(s);
                String before = Check.picture(x);
                c.due("in state " + s, Check.arrives(x, s < 7 ? 500 : 501, f, 0, 5, 8, 0), 0);
                c.unchanged("in state " + s, x, before);
            }
        }
    }
}
