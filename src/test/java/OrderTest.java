/** Steps (6) and (7) of A SEGMENT ARRIVES: bytes put in order, the FIN, and when an ACK is sent. */
public final class OrderTest {
    private static final int ACK = 2, FIN = 4;

    public static void main(String[] args) {
        Check.bothWays(c -> {
            acksThatWait(c);
            bytesOutOfOrder(c);
            theWindowCuts(c);
            theFirstByteWins(c);
            aHeldFin(c);
            aFinOverBytes(c);
            finInEachState(c);
            noMoreBytesBehindTheFin(c);
        });
    }

    private static void acksThatWait(Check c) {
        Wire x = Check.inState(4);
        c.due("the first waits", Check.arrives(x, 500, ACK, 101, 24, 2, 1), 0);
        c.infos("waits", x, 0, Check.WAITS, 1, Check.RCV, 502);
        c.due("for 2 ticks", x.tick(1), 0);
        c.due("now", x.tick(1), 1);
        c.segment("the ACK", x, 0, 0, Check.head(101, ACK, 502, 22));
        c.infos("waits no more", x, 0, Check.WAITS, 0);
        c.due("just once", x.tick(10), 0);
        c.due("one waits", Check.arrives(x, 502, ACK, 101, 24, 2, 1), 0);
        c.due("the second brings it at once", Check.arrives(x, 504, ACK, 101, 24, 2, 1), 1);
        c.segment("for both", x, 0, 1, Check.head(101, ACK, 506, 18));
        c.infos("none waits", x, 0, Check.WAITS, 0);
        c.due("nothing new", Check.arrives(x, 504, ACK, 101, 24, 2, 1), 1);
        c.due("an ACK is not acknowledged", Check.arrives(x, 506, ACK, 101, 24, 0, 1), 0);
        c.infos("none waits", x, 0, Check.WAITS, 0);
    }

    private static void bytesOutOfOrder(Check c) {
        Wire x = Check.inState(4);
        c.due("behind a gap: at once", Check.arrives(x, 504, ACK, 101, 24, 2, 14), 1);
        c.segment("RCV stays", x, 0, 0, Check.head(101, ACK, 500, 24));
        c.infos("held", x, 0, Check.HELD, 1, Check.UNREAD, 0);
        c.due("still a gap: at once", Check.arrives(x, 500, ACK, 101, 24, 2, 10), 1);
        c.infos("held", x, 0, Check.HELD, 1, Check.UNREAD, 2, Check.RCV, 502);
        c.due("closed: at once, as something was held", Check.arrives(x, 501, ACK, 101, 24, 3, 11), 1);
        c.infos("no more", x, 0, Check.HELD, 0, Check.UNREAD, 6, Check.RCV, 506);
        c.due("in order", x.read(0, 7), (6L << 56) + 0x0F0E0D0C0B0AL);
        c.due("the next waits", Check.arrives(x, 506, ACK, 101, 24, 2, 10), 0);
    }

    private static void theWindowCuts(Check c) {
        Wire x = Check.inState(4);
        Check.arrives(x, 500, ACK, 101, 24, 8, 0);
        Check.arrives(x, 508, ACK, 101, 24, 8, 8);
        Check.arrives(x, 516, ACK, 101, 24, 4, 16);
        c.infos("4 are free", x, 0, Check.UNREAD, 20);
        Check.arrives(x, 521, ACK | FIN, 101, 24, 8, 21);
        Check.arrives(x, 520, ACK, 101, 24, 1, 20);
        c.infos("the rest and the FIN are outside", x, 0, Check.UNREAD, 24, Check.RCV, 524, Check.HELD, 0);
        x = Check.inState(4);
        Check.arrives(x, 516, ACK | FIN, 101, 24, 8, 1);
        c.infos("the FIN is just outside", x, 0, Check.HELD, 1);
        Check.arrives(x, 500, ACK, 101, 24, 8, 1);
        Check.arrives(x, 508, ACK, 101, 24, 8, 1);
        c.infos("it did not come", x, 0, Check.UNREAD, 24, Check.HELD, 0);
        c.due("it did not come", x.state(0), 4);
        x = Check.inState(4);
        Check.arrives(x, 516, ACK | FIN, 101, 24, 7, 1);
        Check.arrives(x, 500, ACK, 101, 24, 8, 1);
        Check.arrives(x, 508, ACK, 101, 24, 8, 1);
        c.infos("just inside", x, 0, Check.UNREAD, 23, Check.HELD, 0, Check.RCV, 524);
        c.due("it came", x.state(0), 7);
        overTheWrap(c);
    }

    private static void overTheWrap(Check c) {
        Wire x = new Wire();
        x.open(0, true, 65530);
        Check.arrives(x, 65531, 3, 65531, 24, 0, 0);
        Check.arrives(x, 2, ACK, 65531, 24, 4, 7);
        c.infos("held", x, 0, Check.HELD, 1, Check.RCV, 65532);
        Check.arrives(x, 65532, ACK, 65531, 24, 6, 1);
        c.infos("over the wrap", x, 0, Check.HELD, 0, Check.RCV, 6, Check.UNREAD, 10);
        c.due("in order", x.read(0, 7), (7L << 56) + 0x07060504030201L);
        c.due("in order", x.read(0, 7), (3L << 56) + 0x0A0908L);
        x.write(0, 0x0807060504030201L, 8);
        c.infos("own numbers wrap, too", x, 0, Check.UNA, 65531, Check.NXT, 3);
        Check.arrives(x, 6, ACK, 1, 24, 0, 0);
        c.infos("own numbers wrap, too", x, 0, Check.UNA, 1, Check.KEPT, 2);
    }

    private static void theFirstByteWins(Check c) {
        Wire x = Check.inState(4);
        Check.arrives(x, 502, ACK, 101, 24, 2, 50);
        Check.arrives(x, 501, ACK, 101, 24, 5, 90);
        Check.arrives(x, 500, ACK, 101, 24, 2, 10);
        c.due("10, 90, 50, 51, 93, 94", x.read(0, 7), (6L << 56) + 0x5E5D33325A0AL);
    }

    private static void aHeldFin(Check c) {
        Wire x = Check.inState(4);
        c.due("a FIN behind a gap", Check.arrives(x, 503, ACK | FIN, 101, 24, 0, 0), 1);
        c.infos("held", x, 0, Check.HELD, 1, Check.RCV, 500);
        c.due("state", x.state(0), 4);
        Check.arrives(x, 502, ACK | FIN, 101, 24, 0, 0);
        Check.arrives(x, 501, ACK, 101, 24, 6, 21);
        c.due("closes the gap", Check.arrives(x, 500, ACK, 101, 24, 1, 20), 1);
        c.due("the first FIN is the right one", x.state(0), 7);
        c.infos("3 bytes and a FIN", x, 0, Check.RCV, 504, Check.UNREAD, 3, Check.HELD, 0);
        c.due("bytes", x.read(0, 7), (3L << 56) + 0x161514L);
        c.due("the end", x.read(0, 7), -1);
    }

    private static void aFinOverBytes(Check c) {
        Wire x = Check.inState(4);
        Check.arrives(x, 502, ACK, 101, 24, 8, 30);
        Check.arrives(x, 504, ACK | FIN, 101, 24, 0, 0);
        c.infos("held where a byte is", x, 0, Check.HELD, 1, Check.RCV, 500);
        c.due("one ACK", Check.arrives(x, 500, ACK, 101, 24, 2, 28), 1);
        c.infos("bytes with its number and behind are lost", x, 0, Check.HELD, 0, Check.RCV, 505, Check.UNREAD, 4);
        c.due("CLOSE_WAIT", x.state(0), 7);
        c.due("the bytes before it", x.read(0, 7), (4L << 56) + 0x1F1E1D1CL);
        x = Check.inState(4);
        Check.arrives(x, 501, ACK, 101, 24, 2, 30);
        Check.arrives(x, 500, ACK | FIN, 101, 24, 0, 0);
        c.infos("all are lost", x, 0, Check.HELD, 0, Check.RCV, 501, Check.UNREAD, 0);
        c.due("CLOSE_WAIT", x.state(0), 7);
    }

    private static void finInEachState(Check c) {
        int[] becomes = {0, 0, 0, 0, 7, 8, 10};
        for (int s = 4; s <= 6; s++) {
            Wire x = Check.inState(s);
            x.tick(1);
            int una = x.info(0, Check.UNA);
            c.due("an ACK at once in state " + s, Check.arrives(x, 500, ACK | FIN, una, 24, 3, 1), 1);
            c.due("it becomes", x.state(0), becomes[s]);
            c.due("RCV is behind it", x.wire(0, 0, 2), 504);
            c.infos("bytes", x, 0, Check.UNREAD, 3);
        }
        Wire x = Check.inState(6);
        Check.arrives(x, 500, ACK | FIN, 102, 24, 0, 0);
        x.tick(19);
        c.due("WAIT is 20", x.state(0), 10);
        x.tick(1);
        c.due("WAIT is 20", x.state(0), 0);
    }

    private static void noMoreBytesBehindTheFin(Check c) {
        for (int s = 7; s <= 10; s++) {
            Wire x = Check.inState(s);
            int una = x.info(0, Check.UNA);
            c.due("an ACK at once in state " + s, Check.arrives(x, 501, ACK, una, 24, 3, 1), 1);
            c.infos("nothing is taken in state " + s, x, 0, Check.RCV, 501, Check.UNREAD, 0, Check.HELD, 0, Check.WAITS, 0);
            c.due("another FIN in state " + s, Check.arrives(x, 501, ACK | FIN, una, 24, 0, 0), 1);
            c.due("state " + s + " stays", x.state(0), s);
            c.due("an ACK is not acknowledged in state " + s, Check.arrives(x, 501, ACK, una, 24, 0, 0), 0);
        }
    }
}
