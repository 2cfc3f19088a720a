/** The edges of the terms THE LINK and STATES, and of what an end keeps and has unread. */
public final class EdgeLinkTest {
    private static final int SYN = 1, ACK = 2, FIN = 4, RST = 8;

    public static void main(String[] args) {
        Check.bothWays(c -> {
            aFullRow(c);
            whatIsLost(c);
            theStates(c);
            ownNumbers(c);
            unaNxtMax(c);
            kept(c);
            unread(c);
            bothEndsAtOnce(c);
            held(c);
            ownWindow(c);
            atFirst(c);
        });
    }

    private static void aFullRow(Check c) {
        c.says("THE LINK has a row of at most 16 segments from each end");
        Wire x = Check.inState(4);
        Check.fill(x, 15);
        x.write(0, 9, 1);
        c.due("15 and 1 more", Check.row(x), 16);
        c.due("that one is the last", x.wire(0, 15, 5), 9);
        c.due("ACK", Check.arrives(x, 400, ACK, 0, 0, 0, 0), 1);
        c.due("16 and no more", Check.row(x), 16);
        c.due("there is no segment 16", x.wire(0, 16, 0), -1);
        for (int i = 1; i <= 16; i++) {
            c.due("the other row has room", x.forge(1, i, ACK, 0, 0, 0, 0), i);
        }
        c.due("and is full then", x.forge(1, 17, ACK, 0, 0, 0, 0), -2);
        x = new Wire();
        for (int i = 0; i < 16; i++) {
            x.forge(1, i, RST, 0, 0, 8, 100 + i);
            x.forge(0, i, RST, 0, 0, 8, 200 + i);
        }
        x.drop(0, 0);
        x.twice(0, 0);
        for (int i = 0; i < 16; i++) {
            c.due("a full row leaves the other one alone", x.wire(1, i, 5), 100 + i);
        }
    }

    private static void whatIsLost(Check c) {
        c.says("what is sent is the last one of the row, or lost if there are 16.");
        Wire x = Check.inState(4);
        Check.fill(x, 15);
        x.write(0, 9, 1);
        String before = Check.rowPicture(x, 0);
        x.tick(2);
        c.due("the row stays as it was", Check.rowPicture(x, 0).equals(before) ? 1 : 0, 1);
        c.infos("the byte was sent again and lost", x, 0, Check.TRIES, 1, Check.RETRY, 4);
        x.drop(0, 3);
        x.tick(4);
        c.due("there was room for one", Check.row(x), 16);
        c.due("it is the last", x.wire(0, 15, 5), 9);
        x = Check.inState(4);
        Check.fill(x, 16);
        x.close(0);
        c.infos("the FIN is lost, but was sent", x, 0, Check.NXT, 102, Check.RETRY, 2);
        x = Check.inState(4);
        Check.fill(x, 16);
        x.abort(0);
        c.due("a RST is lost, too", x.wire(0, 15, 1), ACK);
        x = Check.inState(4);
        Check.fill(x, 15);
        Check.arrives(x, 400, SYN, 0, 0, 0, 0);
        c.segment("what is sent has the last place", x, 0, 15, Check.head(101, ACK, 500, 24));
    }

    private static void theStates(Check c) {
        c.says("STATES of an end: 0 CLOSED, 1 LISTEN, 2 SYN_SENT, 3 SYN_RECEIVED, 4 ESTABLISHED, 5 FIN_WAIT_1, "
            + "6 FIN_WAIT_2, 7 CLOSE_WAIT, 8 CLOSING, 9 LAST_ACK, 10 TIME_WAIT.");
        for (int s = 0; s <= 10; s++) {
            c.due("state " + s, Check.inState(s).state(0), s);
        }
    }

    private static void ownNumbers(Check c) {
        c.says("Its own numbers: ISS is its SYN, those behind are the bytes written, in order, and when it is closed the one "
            + "behind these its FIN.");
        Wire x = Check.inState(2);
        Check.write(x, 3);
        Check.arrives(x, 499, SYN | ACK, 101, 24, 0, 0);
        x.close(0);
        c.segment("the bytes", x, 0, 1, Check.head(101, ACK, 500, 24), 1, 2, 3);
        c.segment("the FIN", x, 0, 2, Check.head(104, FIN | ACK, 500, 24));
        x = Check.inState(4);
        x.close(0);
        c.segment("a FIN without bytes", x, 0, 0, Check.head(101, FIN | ACK, 500, 24));
    }

    private static void unaNxtMax(Check c) {
        c.says("UNA is the first that is not acknowledged, NXT the next one to be sent, MAX the one behind all that were sent.");
        Wire x = Check.inState(4);
        c.infos("nothing is on its way", x, 0, Check.UNA, 101, Check.NXT, 101);
        c.due("MAX", Check.max(x), 101);
        Check.write(x, 8, 8, 8);
        c.infos("16 are", x, 0, Check.UNA, 101, Check.NXT, 117);
        c.due("MAX", Check.max(x), 117);
        Check.acks(x, 102, 24);
        c.infos("one is acknowledged, 8 more are sent", x, 0, Check.UNA, 102, Check.NXT, 125);
        x.tick(2);
        c.infos("NXT goes back", x, 0, Check.UNA, 102, Check.NXT, 110);
        c.due("MAX does not", Check.max(x), 125);
    }

    private static void kept(Check c) {
        c.says("Bytes from UNA on are KEPT, at most 32.");
        int[] states = {2, 3, 4, 7};
        for (int s : states) {
            Wire x = Check.inState(s);
            Check.write(x, 8, 8, 8, 7);
            c.infos("31 in state " + s, x, 0, Check.KEPT, 31);
            c.due("one more in state " + s, x.write(0, 1, 8), 1);
            c.infos("32 in state " + s, x, 0, Check.KEPT, 32);
            c.due("no more in state " + s, x.write(0, 1, 1), 0);
            c.infos("32 in state " + s, x, 0, Check.KEPT, 32);
        }
        Wire x = Check.inState(4);
        Check.write(x, 8, 8, 8, 8);
        Check.acks(x, 102, 0);
        c.infos("one is acknowledged", x, 0, Check.KEPT, 31);
        c.due("so there is room for one", x.write(0, 77, 8), 1);
        Check.acks(x, 117, 24);
        Check.acks(x, 133, 24);
        c.segment("which comes last", x, 0, Check.row(x) - 1, Check.head(133, ACK, 500, 24), 77);
        x = Check.inState(5);
        c.infos("a FIN is not a byte", x, 0, Check.KEPT, 0);
        x = Check.inState(2);
        c.infos("a SYN is not a byte", x, 0, Check.KEPT, 0);
    }

    private static void unread(Check c) {
        c.says("Of the other end: RCV, the next number that is due; UNREAD bytes, at most 24");
        Wire x = Check.unread(23);
        c.infos("23", x, 0, Check.UNREAD, 23, Check.RCV, 523);
        Check.arrives(x, 523, ACK, 101, 24, 8, 50);
        c.infos("1 of 8 is taken", x, 0, Check.UNREAD, 24, Check.RCV, 524, Check.HELD, 0);
        Check.arrives(x, 524, ACK, 101, 24, 1, 51);
        c.infos("none of 1 is taken", x, 0, Check.UNREAD, 24, Check.RCV, 524, Check.HELD, 0);
        x.read(0, 1);
        Check.arrives(x, 524, ACK, 101, 24, 8, 51);
        c.infos("one was read, one is taken", x, 0, Check.UNREAD, 24, Check.RCV, 525, Check.HELD, 0);
        x.read(0, 7);
        x.read(0, 7);
        x.read(0, 7);
        c.due("the last ones", x.read(0, 7), (3L << 56) + 0x333216L);
    }

    private static void bothEndsAtOnce(Check c) {
        c.says("Bytes from UNA on are KEPT, at most 32.");
        Wire x = Check.connected(100, 500);
        for (int i = 0; i < 32; i++) {
            x.write(0, 10 + i, 1);
            x.write(1, 60 + i, 1);
        }
        c.infos("both are full", x, 0, Check.KEPT, 32);
        c.infos("both are full", x, 1, Check.KEPT, 32);
        int[] came = new int[2];
        for (int round = 0; round < 10; round++) {
            x.deliver(0, 0);
            x.deliver(1, 0);
            for (int end = 0; end < 2; end++) {
                long got = x.read(end, 7);
                for (int i = 0; i < got >>> 56; i++) {
                    c.due("in order", got >> 8 * i & 255, (end == 0 ? 60 : 10) + came[end]);
                    came[end]++;
                }
            }
        }
        c.due("all came to end 0", came[0], 32);
        c.due("all came to end 1", came[1], 32);
    }

    private static void held(Check c) {
        c.says("and HELD: bytes and a FIN that came with numbers behind RCV.");
        Wire x = Check.inState(4);
        Check.arrives(x, 501, ACK, 101, 24, 1, 1);
        c.infos("a byte", x, 0, Check.HELD, 1, Check.UNREAD, 0);
        x = Check.inState(4);
        Check.arrives(x, 501, FIN | ACK, 101, 24, 0, 0);
        c.infos("a FIN", x, 0, Check.HELD, 1, Check.UNREAD, 0);
        x = Check.inState(4);
        Check.arrives(x, 500, ACK, 101, 24, 1, 1);
        c.infos("what was due is not held", x, 0, Check.HELD, 0, Check.UNREAD, 1);
        for (int o = 1; o <= 23; o++) {
            x = Check.inState(4);
            Check.arrives(x, 500 + o, ACK, 101, 24, 1, 1);
            c.infos("just the byte " + o + " behind", x, 0, Check.HELD, 1);
            x.abort(0);
            x.open(0, true, 100);
            Check.arrives(x, 499, SYN | ACK, 101, 24, 0, 0);
            c.infos("not in the next life", x, 0, Check.HELD, 0);
        }
    }

    private static void ownWindow(Check c) {
        c.says("Its OWN WINDOW is 24 - UNREAD.");
        int[] counts = {0, 1, 8, 23, 24};
        for (int n : counts) {
            Wire x = Check.unread(n);
            Check.arrives(x, 400, ACK, 0, 0, 0, 0);
            c.due(n + " unread", x.wire(0, 0, 3), 24 - n);
        }
        Wire x = Check.inState(4);
        Check.arrives(x, 501, ACK, 101, 24, 8, 0);
        c.due("what is held is not unread", x.wire(0, 0, 3), 24);
    }

    private static void atFirst(Check c) {
        c.says("WND is the window of the other end, PEAK how far the link may be filled (16 at first), HALF (64 at first), "
            + "RTO (8 at first), SAME and TRIES counts (0 at first).");
        Wire x = Check.inState(2);
        c.infos("at first", x, 0, Check.WND, 0, Check.PEAK, 16, Check.HALF, 64, Check.RTO, 8, Check.TRIES, 0);
        x = Check.inState(4);
        Check.write(x, 8);
        c.due("SAME 1", Check.acks(x, 101, 24), 0);
        c.due("SAME 2", Check.acks(x, 101, 24), 0);
        c.due("SAME 3", Check.acks(x, 101, 24), 1);
        x = Check.inState(4);
        Check.write(x, 8);
        Check.acks(x, 101, 24);
        Check.acks(x, 101, 24);
        x.abort(0);
        x.open(0, true, 100);
        Check.arrives(x, 499, SYN | ACK, 101, 24, 0, 0);
        Check.write(x, 8);
        c.due("SAME 1 once more", Check.acks(x, 101, 24), 0);
        c.due("SAME 2 once more", Check.acks(x, 101, 24), 0);
        c.due("SAME 3 once more", Check.acks(x, 101, 24), 1);
    }
}
