/** The edges of steps (6) and (7) of A SEGMENT ARRIVES. */
public final class EdgeOrderTest {
    private static final int ACK = 2, FIN = 4;

    public static void main(String[] args) {
        Check.bothWays(c -> {
            states(c);
            theWindowsEdges(c);
            beforeAHeldFin(c);
            theFirstByteStays(c);
            theFinsEdges(c);
            oneFin(c);
            aFinWhereAByteIs(c);
            asLongAs(c);
            overTheFin(c);
            theStatesBehindIt(c);
            atOnceInLateStates(c);
            atOnceByWhatIsHeld(c);
            oneWaits(c);
            lengthZero(c);
            thenFlow(c);
        });
    }

    private static int comes(Wire x, int seq, int n, int b) {
        return Check.arrives(x, seq, ACK, x.info(0, Check.UNA), 24, n, b);
    }

    private static int finComes(Wire x, int seq, int n, int b) {
        return Check.arrives(x, seq, FIN | ACK, x.info(0, Check.UNA), 24, n, b);
    }

    private static void states(Check c) {
        c.says("(6) In states 4, 5, 6: each of its bytes");
        for (int s = 4; s <= 10; s++) {
            Wire x = Check.inState(s);
            int rcv = s < 7 ? 500 : 501;
            comes(x, rcv, 3, 1);
            comes(x, rcv + 5, 3, 1);
            c.infos("taken in state " + s, x, 0, Check.UNREAD, s < 7 ? 3 : 0, Check.HELD, s < 7 ? 1 : 0,
                Check.RCV, s < 7 ? 503 : 501);
            x = Check.inState(s);
            finComes(x, rcv + 3, 0, 1);
            c.infos("a FIN in state " + s, x, 0, Check.HELD, s < 7 ? 1 : 0);
        }
    }

    private static void theWindowsEdges(Check c) {
        c.says("each of its bytes whose number has an offset from 0 to w - 1 from RCV");
        Wire x = Check.inState(4);
        comes(x, 499, 2, 1);
        c.infos("-1 and 0", x, 0, Check.UNREAD, 1, Check.RCV, 501, Check.HELD, 0);
        c.due("the one with 0", x.read(0, 7), (1L << 56) + 2);
        x = Check.inState(4);
        comes(x, 523, 2, 1);
        c.infos("w - 1 and w", x, 0, Check.HELD, 1);
        comes(x, 500, 8, 1);
        comes(x, 508, 8, 1);
        comes(x, 516, 7, 1);
        c.infos("w - 1 was held, w was not", x, 0, Check.UNREAD, 24, Check.RCV, 524, Check.HELD, 0);
        x = Check.unread(23);
        comes(x, 523, 8, 1);
        c.infos("a window of 1", x, 0, Check.UNREAD, 24, Check.RCV, 524, Check.HELD, 0);
        x = Check.unread(22);
        comes(x, 523, 8, 1);
        c.infos("a window of 2: 1 is held", x, 0, Check.UNREAD, 22, Check.HELD, 1);
        comes(x, 522, 1, 1);
        c.infos("and nothing behind it", x, 0, Check.UNREAD, 24, Check.RCV, 524, Check.HELD, 0);
        x = Check.unread(20);
        comes(x, 513, 8, 1);
        c.infos("7 are old, 1 is new", x, 0, Check.UNREAD, 21, Check.RCV, 521, Check.HELD, 0);
        x.read(0, 7);
        x.read(0, 6);
        c.due("the old ones stay as they came", x.read(0, 7), (7L << 56) + 0x131211100F0E0DL);
    }

    private static void beforeAHeldFin(Check c) {
        c.says("and, if a FIN is held, is before that");
        Wire x = Check.inState(4);
        finComes(x, 503, 0, 0);
        comes(x, 503, 1, 1);
        comes(x, 504, 1, 1);
        comes(x, 500, 2, 1);
        c.infos("its number and those behind are not held", x, 0, Check.RCV, 502, Check.UNREAD, 2);
        c.due("the FIN did not come", x.state(0), 4);
        comes(x, 502, 8, 3);
        c.infos("the last one before it is", x, 0, Check.RCV, 504, Check.UNREAD, 3, Check.HELD, 0);
        c.due("the FIN came", x.state(0), 7);
        c.due("its bytes", x.read(0, 7), (3L << 56) + 0x030201);
    }

    private static void theFirstByteStays(Check c) {
        c.says("is held, if no byte with that number is");
        Wire x = Check.inState(4);
        comes(x, 502, 2, 50);
        comes(x, 501, 4, 90);
        comes(x, 500, 8, 10);
        c.due("10, 90, 50, 51, 93, 15, 16", x.read(0, 7), (7L << 56) + 0x100F5D33325A0AL);
        c.due("17", x.read(0, 7), (1L << 56) + 17);
    }

    private static void theFinsEdges(Check c) {
        c.says("then its FIN, if its number has such an offset");
        Wire x = Check.inState(4);
        finComes(x, 523, 0, 0);
        c.infos("w - 1", x, 0, Check.HELD, 1);
        x = Check.inState(4);
        finComes(x, 524, 0, 0);
        c.infos("w", x, 0, Check.HELD, 0);
        x = Check.unread(16);
        finComes(x, 516, 8, 0);
        c.infos("w behind 8 bytes", x, 0, Check.UNREAD, 24, Check.HELD, 0, Check.RCV, 524);
        c.due("it did not come", x.state(0), 4);
        x = Check.unread(16);
        finComes(x, 516, 7, 0);
        c.infos("w - 1 behind 7 bytes", x, 0, Check.UNREAD, 23, Check.HELD, 0, Check.RCV, 524);
        c.due("it came", x.state(0), 7);
        x = Check.unread(23);
        finComes(x, 523, 0, 0);
        c.due("0 with a window of 1", x.state(0), 7);
        x = Check.unread(24);
        finComes(x, 524, 0, 0);
        c.due("0 with a window of 0", x.state(0), 4);
        c.infos("it is not held", x, 0, Check.HELD, 0, Check.RCV, 524);
    }

    private static void oneFin(Check c) {
        c.says("and no FIN is held, is held");
        Wire x = Check.inState(4);
        finComes(x, 503, 0, 0);
        finComes(x, 501, 0, 0);
        finComes(x, 505, 0, 0);
        comes(x, 500, 3, 1);
        c.infos("the first one is the FIN", x, 0, Check.UNREAD, 3, Check.RCV, 504, Check.HELD, 0);
        c.due("it came", x.state(0), 7);
        x = Check.inState(4);
        finComes(x, 502, 0, 0);
        finComes(x, 500, 1, 1);
        c.infos("another one in a segment that goes on", x, 0, Check.UNREAD, 1, Check.RCV, 501, Check.HELD, 1);
        c.due("did not come", x.state(0), 4);
    }

    private static void aFinWhereAByteIs(Check c) {
        c.says("(also where a byte is).");
        Wire x = Check.inState(4);
        comes(x, 502, 3, 30);
        finComes(x, 502, 0, 0);
        comes(x, 500, 2, 28);
        c.infos("the FIN came, not the byte", x, 0, Check.UNREAD, 2, Check.RCV, 503, Check.HELD, 0);
        c.due("CLOSE_WAIT", x.state(0), 7);
        x = Check.inState(4);
        comes(x, 502, 3, 30);
        finComes(x, 501, 1, 29);
        comes(x, 500, 1, 28);
        c.infos("behind a byte of its own segment", x, 0, Check.UNREAD, 2, Check.RCV, 503, Check.HELD, 0);
        c.due("CLOSE_WAIT", x.state(0), 7);
    }

    private static void asLongAs(Check c) {
        c.says("As long as a byte with the number RCV is held, and no FIN with that number, it is UNREAD and RCV goes on by 1.");
        Wire x = Check.inState(4);
        comes(x, 501, 8, 1);
        comes(x, 509, 8, 9);
        comes(x, 517, 7, 17);
        c.infos("all but the first", x, 0, Check.UNREAD, 0, Check.RCV, 500, Check.HELD, 1);
        comes(x, 500, 1, 0);
        c.infos("all of 24", x, 0, Check.UNREAD, 24, Check.RCV, 524, Check.HELD, 0);
        c.due("in order", x.read(0, 7), (7L << 56) + 0x06050403020100L);
        x = Check.inState(4);
        comes(x, 501, 1, 1);
        comes(x, 503, 1, 3);
        comes(x, 500, 1, 0);
        c.infos("up to the next gap", x, 0, Check.UNREAD, 2, Check.RCV, 502, Check.HELD, 1);
        comes(x, 502, 1, 2);
        c.infos("and over it", x, 0, Check.UNREAD, 4, Check.RCV, 504, Check.HELD, 0);
    }

    private static void overTheFin(Check c) {
        c.says("If then a FIN with the number RCV is held, RCV goes on over it (bytes held with that number or behind it are lost)");
        Wire x = Check.inState(4);
        comes(x, 501, 8, 1);
        finComes(x, 500, 0, 0);
        c.infos("bytes behind it are lost", x, 0, Check.UNREAD, 0, Check.RCV, 501, Check.HELD, 0);
        c.due("nothing to read", x.read(0, 7), -1);
        c.due("a byte with that number is lost", comes(x, 501, 8, 1), 1);
        c.infos("and those that come", x, 0, Check.UNREAD, 0, Check.RCV, 501, Check.HELD, 0);
        x = Check.inState(4);
        finComes(x, 501, 0, 0);
        c.infos("its number is not RCV yet", x, 0, Check.RCV, 500, Check.HELD, 1);
        c.due("ESTABLISHED", x.state(0), 4);
    }

    private static void theStatesBehindIt(Check c) {
        c.says("state 4 becomes 7, 5 becomes 8, 6 becomes 10 (WAIT is now + 20), and nothing is held any more.");
        int[] becomes = {7, 8, 10};
        for (int s = 4; s <= 6; s++) {
            Wire x = Check.inState(s);
            comes(x, 502, 2, 1);
            finComes(x, 500, 0, 0);
            c.due("state " + s, x.state(0), becomes[s - 4]);
            c.infos("nothing is held", x, 0, Check.HELD, 0, Check.RCV, 501);
        }
        Wire x = Check.inState(6);
        x.tick(7);
        finComes(x, 500, 0, 0);
        x.tick(19);
        c.due("19 ticks later", x.state(0), 10);
        x.tick(1);
        c.due("20 ticks later", x.state(0), 0);
        x = Check.inState(5);
        Check.arrives(x, 500, FIN | ACK, 102, 24, 0, 0);
        c.due("5 becomes 6 and 10 by one segment", x.state(0), 10);
        x = Check.inState(4);
        finComes(x, 500, 0, 0);
        x.tick(20);
        c.due("no WAIT in 7", x.state(0), 7);
    }

    private static void atOnceInLateStates(Check c) {
        c.says("(7) If its LENGTH is above 0: an ACK is sent at once, if the state is above 6, or RCV did not go on");
        int[] sent = {0, 0, 0, 1, 1, 1, 1};
        for (int s = 4; s <= 10; s++) {
            Wire x = Check.inState(s);
            c.due("a byte in state " + s, comes(x, s < 7 ? 500 : 501, 1, 0), sent[s - 4]);
            c.infos("what waits in state " + s, x, 0, Check.WAITS, 1 - sent[s - 4]);
        }
        Wire x = Check.inState(4);
        c.due("by its FIN the state is above 6", finComes(x, 500, 3, 0), 1);
        c.segment("the ACK", x, 0, 0, Check.head(101, ACK, 504, 21));
        x = Check.inState(4);
        c.due("RCV did not go on", comes(x, 501, 1, 0), 1);
        c.segment("the ACK", x, 0, 0, Check.head(101, ACK, 500, 24));
        c.infos("nothing waits", x, 0, Check.WAITS, 0);
        c.due("nor now", comes(x, 501, 1, 0), 1);
    }

    private static void atOnceByWhatIsHeld(Check c) {
        c.says("or something was held before or is now");
        Wire x = Check.inState(4);
        comes(x, 502, 1, 2);
        c.due("before and now", comes(x, 500, 1, 0), 1);
        c.infos("it is held still", x, 0, Check.HELD, 1, Check.RCV, 501);
        c.due("before, not now", comes(x, 501, 1, 1), 1);
        c.infos("nothing is held", x, 0, Check.HELD, 0, Check.RCV, 503, Check.WAITS, 0);
        c.due("neither before nor now", comes(x, 503, 1, 3), 0);
        c.infos("so it waits", x, 0, Check.WAITS, 1);
        x = Check.inState(4);
        finComes(x, 505, 0, 0);
        c.due("a FIN is something, too", comes(x, 500, 1, 0), 1);
    }

    private static void oneWaits(Check c) {
        c.says("or an ACK waits; else an ACK WAITS till now + 2.");
        Wire x = Check.inState(4);
        c.due("the first waits", comes(x, 500, 1, 0), 0);
        c.infos("it waits", x, 0, Check.WAITS, 1);
        c.due("the second is answered for both", comes(x, 501, 1, 1), 1);
        c.segment("the ACK", x, 0, 0, Check.head(101, ACK, 502, 22));
        c.infos("nothing waits", x, 0, Check.WAITS, 0);
        c.due("the third waits", comes(x, 502, 1, 2), 0);
        c.due("1 tick later", x.tick(1), 0);
        c.infos("it waits", x, 0, Check.WAITS, 1);
        c.due("2 ticks later", x.tick(1), 1);
        c.segment("the ACK", x, 0, 1, Check.head(101, ACK, 503, 21));
        c.infos("nothing waits", x, 0, Check.WAITS, 0);
        c.due("just once", x.tick(1000), 0);
    }

    private static void lengthZero(Check c) {
        c.says("(7) If its LENGTH is above 0: an ACK is sent at once");
        Wire x = Check.inState(4);
        comes(x, 502, 1, 0);
        c.due("LENGTH 0, though something is held", comes(x, 500, 0, 0), 0);
        x = Check.inState(4);
        comes(x, 500, 1, 0);
        c.due("LENGTH 0, though an ACK waits", comes(x, 501, 0, 0), 0);
        c.infos("it waits still", x, 0, Check.WAITS, 1);
        x = Check.inState(7);
        c.due("LENGTH 0, though the state is above 6", comes(x, 501, 0, 0), 0);
    }

    private static void thenFlow(Check c) {
        c.says("Then, whatever its LENGTH, FLOW.");
        Wire x = Check.window(0);
        Check.write(x, 3);
        c.due("LENGTH 0", Check.acks(x, 101, 24), 1);
        x = Check.window(0);
        Check.write(x, 3);
        c.due("LENGTH 1: the bytes bring the ACK", Check.arrives(x, 500, ACK, 101, 24, 1, 0), 1);
        c.segment("both", x, 0, 0, Check.head(101, ACK, 501, 23), 1, 2, 3);
        c.infos("nothing waits", x, 0, Check.WAITS, 0);
        x = Check.window(0);
        Check.write(x, 3);
        c.due("LENGTH 1: an ACK at once, then the bytes", Check.arrives(x, 501, ACK, 101, 24, 1, 0), 2);
        c.segment("the ACK", x, 0, 0, Check.head(101, ACK, 500, 24));
        c.segment("the bytes", x, 0, 1, Check.head(101, ACK, 500, 24), 1, 2, 3);
        x = Check.window(0);
        Check.write(x, 3);
        c.due("a FIN: FLOW in CLOSE_WAIT", Check.arrives(x, 500, ACK | FIN, 101, 24, 0, 0), 2);
    }
}
