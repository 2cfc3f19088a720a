import java.util.Arrays;

/** The edges of step (5) of A SEGMENT ARRIVES: ACKs that are the same, and what sets WND. */
public final class EdgeSameTest {
    private static final int SYN = 1, ACK = 2, FIN = 4;

    public static void main(String[] args) {
        Check.bothWays(c -> {
            whatIsTheSame(c);
            nothingOnItsWay(c);
            inBetween(c);
            three(c);
            half(c);
            nothingTimed(c);
            firstPiece(c);
            firstPieceIsTheFin(c);
            peak(c);
            window(c);
            windowOfASyn(c);
            windowOfAnOldAck(c);
        });
    }

    /** 8 bytes on their way, and two ACKs that were the same. */
    private static Wire two() {
        Wire x = Check.inState(4);
        Check.write(x, 8);
        Check.acks(x, 101, 24);
        Check.acks(x, 101, 24);
        return x;
    }

    private static void whatIsTheSame(Check c) {
        c.says("If a = 0, LENGTH is 0, WINDOW is WND and UNA is not MAX, SAME grows by 1");
        Wire x = two();
        c.due("all of it", Check.acks(x, 101, 24), 1);
        x = two();
        c.due("a is -1", Check.acks(x, 100, 24), 0);
        c.due("then the third", Check.acks(x, 101, 24), 1);
        x = two();
        c.due("WINDOW is less", Check.acks(x, 101, 23), 0);
        c.due("WINDOW is WND then", Check.acks(x, 101, 23), 1);
        x = two();
        Check.acks(x, 101, 20);
        c.due("WINDOW is more", Check.acks(x, 101, 24), 0);
        c.due("WINDOW is WND then", Check.acks(x, 101, 24), 1);
        x = two();
        c.due("LENGTH is 1: just the ACK of a byte behind a gap", Check.arrives(x, 501, ACK, 101, 24, 1, 0), 1);
        c.due("which has no bytes", x.wire(0, 1, 4), 0);
        c.due("then the third", Check.arrives(x, 501, ACK, 101, 24, 0, 0), 1);
        c.due("which has bytes", x.wire(0, 2, 4), 8);
        x = two();
        c.due("a FIN has LENGTH 1", Check.arrives(x, 501, ACK | FIN, 101, 24, 0, 0), 1);
        c.due("the ACK has no bytes", x.wire(0, 1, 4), 0);
        // A byte that comes in order: its ACK waits.
        x = two();
        c.due("LENGTH is 1", Check.arrives(x, 500, ACK, 101, 24, 1, 0), 0);
        c.due("then the third", Check.arrives(x, 501, ACK, 101, 24, 0, 0), 1);
    }

    private static void nothingOnItsWay(Check c) {
        c.says("If a = 0, LENGTH is 0, WINDOW is WND and UNA is not MAX, SAME grows by 1");
        Wire x = Check.inState(4);
        for (int i = 0; i < 5; i++) {
            c.due("UNA is MAX", Check.acks(x, 101, 24), 0);
        }
        c.infos("PEAK and HALF stay", x, 0, Check.PEAK, 16, Check.HALF, 64);
        Check.write(x, 8);
        c.due("1", Check.acks(x, 101, 24), 0);
        c.due("2", Check.acks(x, 101, 24), 0);
        c.due("3", Check.acks(x, 101, 24), 1);
        // Bytes that wait for a window are not on their way.
        x = Check.window(0);
        Check.write(x, 8);
        for (int i = 0; i < 5; i++) {
            c.due("UNA is MAX", Check.acks(x, 101, 0), 0);
        }
        c.infos("PEAK and HALF stay", x, 0, Check.PEAK, 16, Check.HALF, 64);
        // NXT is UNA, but MAX is not.
        x = Check.inState(4);
        Check.write(x, 8);
        Check.acks(x, 101, 0);
        x.tick(2);
        c.infos("NXT is UNA", x, 0, Check.NXT, 101, Check.UNA, 101);
        c.due("1", Check.acks(x, 101, 0), 0);
        c.due("2", Check.acks(x, 101, 0), 0);
        c.due("3", Check.acks(x, 101, 0), 1);
    }

    private static void inBetween(Check c) {
        c.says("SAME grows by 1; when it is 3");
        Wire x = Check.inState(4);
        Check.write(x, 8);
        Check.acks(x, 101, 24);
        Check.acks(x, 101, 20);
        Check.acks(x, 101, 24);
        Check.acks(x, 101, 24);
        c.infos("what comes between does not make it 0", x, 0, Check.PEAK, 16, Check.HALF, 64);
        c.due("3", Check.acks(x, 101, 24), 1);
        x = two();
        Check.write(x, 8);
        c.due("nor do new bytes", Check.acks(x, 101, 24), 1);
    }

    private static void three(Check c) {
        c.says("when it is 3: HALF is half of the offset of MAX from UNA, at least 8");
        Wire x = Check.inState(4);
        Check.write(x, 8);
        c.due("1", Check.acks(x, 101, 24), 0);
        c.infos("1", x, 0, Check.PEAK, 16, Check.HALF, 64);
        c.due("2", Check.acks(x, 101, 24), 0);
        c.infos("2", x, 0, Check.PEAK, 16, Check.HALF, 64);
        c.due("3", Check.acks(x, 101, 24), 1);
        c.infos("3", x, 0, Check.PEAK, 32, Check.HALF, 8);
        c.due("4", Check.acks(x, 101, 24), 0);
        c.infos("4", x, 0, Check.PEAK, 40, Check.HALF, 8);
    }

    private static void half(Check c) {
        c.says("when it is 3: HALF is half of the offset of MAX from UNA, at least 8");
        // 24 bytes from 109 on are sent; some of them are acknowledged before the three.
        int[][] rows = {{24, 12}, {20, 10}, {19, 9}, {18, 9}, {17, 8}, {16, 8}, {15, 8}, {2, 8}, {1, 8}};
        for (int[] r : rows) {
            Wire x = Check.inState(4);
            Check.write(x, 8);
            Check.acks(x, 109, 24);
            Check.write(x, 8, 8, 8);
            int una = 133 - r[0];
            for (int i = 0; i < (r[0] == 24 ? 3 : 4); i++) {
                Check.acks(x, una, 24);
            }
            c.infos(r[0] + " on their way", x, 0, Check.UNA, una, Check.NXT, 133, Check.HALF, r[1], Check.PEAK, r[1] + 24);
        }
        c.infos("half of 19", EdgeAckTest.nineteen(), 0, Check.HALF, 9, Check.PEAK, 33);
        // After RETRY NXT is 117, but MAX is 133 still.
        Wire x = Check.inState(4);
        Check.write(x, 8);
        Check.acks(x, 109, 24);
        Check.write(x, 8, 8, 8);
        x.tick(2);
        c.infos("NXT went back", x, 0, Check.NXT, 117, Check.UNA, 109);
        Check.acks(x, 110, 8);
        Check.acks(x, 110, 8);
        Check.acks(x, 110, 8);
        Check.acks(x, 110, 8);
        c.infos("half of 23", x, 0, Check.HALF, 11, Check.PEAK, 35);
    }

    private static void nothingTimed(Check c) {
        c.says("nothing is TIMED, the FIRST piece is sent");
        Wire x = Check.slow();
        Check.write(x, 8);
        Check.acks(x, 101, 24);
        Check.acks(x, 101, 24);
        x.tick(5);
        Check.acks(x, 109, 24);
        c.infos("two: R is 5", x, 0, Check.RTO, 15);
        x = Check.slow();
        Check.write(x, 8);
        Check.acks(x, 101, 24);
        Check.acks(x, 101, 24);
        Check.acks(x, 101, 24);
        c.infos("RETRY stays", x, 0, Check.RETRY, 18);
        x.tick(5);
        Check.acks(x, 109, 24);
        c.infos("three: nothing is measured", x, 0, Check.RTO, 18);
    }

    private static void firstPiece(Check c) {
        c.says("of the bytes from UNA on and before MAX the first 8 (or as many as there are)");
        int[] bytes = {1, 2, 3, 4, 5, 6, 7, 8};
        int[] sizes = {1, 7, 8};
        for (int n : sizes) {
            Wire x = Check.inState(4);
            Check.write(x, n);
            Check.acks(x, 101, 24);
            Check.acks(x, 101, 24);
            Check.acks(x, 101, 24);
            c.segment(n + " of " + n, x, 0, 1, Check.head(101, ACK, 500, 24), Arrays.copyOf(bytes, n));
        }
        Wire x = Check.inState(4);
        x.write(0, 0x0807060504030201L, 8);
        x.write(0, 0x100F0E0D0C0B0A09L, 8);
        Check.acks(x, 104, 16);
        Check.acks(x, 104, 16);
        Check.acks(x, 104, 16);
        c.due("the third", Check.acks(x, 104, 16), 1);
        c.segment("8 of 13", x, 0, 2, Check.head(104, ACK, 500, 24), 4, 5, 6, 7, 8, 9, 10, 11);
        c.infos("NXT stays", x, 0, Check.NXT, 117, Check.UNA, 104);
        x = Check.inState(4);
        Check.write(x, 3, 4);
        Check.acks(x, 101, 24);
        Check.acks(x, 101, 24);
        Check.acks(x, 101, 24);
        c.segment("3 of 3 before MAX, though 7 are kept", x, 0, 1, Check.head(101, ACK, 500, 24), 1, 2, 3);
        c.due("the 4 still wait", Check.row(x), 2);
    }

    private static void firstPieceIsTheFin(Check c) {
        c.says("or the FIN if there is none, with SEQ UNA");
        int[] states = {5, 8, 9};
        for (int s : states) {
            Wire x = Check.inState(s);
            int rcv = s == 5 ? 500 : 501;
            Check.arrives(x, rcv, ACK, 101, 24, 0, 0);
            Check.arrives(x, rcv, ACK, 101, 24, 0, 0);
            c.due("the third in state " + s, Check.arrives(x, rcv, ACK, 101, 24, 0, 0), 1);
            c.segment("the FIN in state " + s, x, 0, 0, Check.head(101, FIN | ACK, rcv, 24));
            c.infos("NXT stays", x, 0, Check.NXT, 102);
        }
        Wire x = Check.inState(4);
        Check.write(x, 3);
        x.close(0);
        Check.acks(x, 101, 24);
        Check.acks(x, 101, 24);
        Check.acks(x, 101, 24);
        c.segment("bytes without the FIN", x, 0, 2, Check.head(101, ACK, 500, 24), 1, 2, 3);
        Check.acks(x, 104, 24);
        Check.acks(x, 104, 24);
        Check.acks(x, 104, 24);
        Check.acks(x, 104, 24);
        c.segment("the FIN when there is none", x, 0, 3, Check.head(104, FIN | ACK, 500, 24));
    }

    private static void peak(Check c) {
        c.says("PEAK is HALF + 24; above 3: PEAK grows by 8, at most to 64.");
        Wire x = two();
        int[] peaks = {32, 40, 48, 56, 64, 64};
        for (int p : peaks) {
            Check.acks(x, 101, 24);
            c.infos("HALF is 8", x, 0, Check.PEAK, p, Check.HALF, 8);
        }
        x = EdgeAckTest.nineteen();
        int[] more = {33, 41, 49, 57, 64, 64};
        for (int p : more) {
            c.infos("HALF is 9", x, 0, Check.PEAK, p, Check.HALF, 9);
            Check.acks(x, 114, 24);
        }
        // PEAK 32 and WND 24 let 8 more go behind the 16.
        x = two();
        Check.write(x, 8, 8);
        c.due("8 more were let go by PEAK 16", Check.row(x), 2);
        c.due("the FIRST piece, and 8 more", Check.acks(x, 101, 24), 2);
        c.due("8 more", x.wire(0, 3, 0), 117);
    }

    private static void window(Check c) {
        c.says("If a >= 0, and the offset of SEQ from the SEQ of the latest segment that set WND so is above 0, or is 0 and that "
            + "of ACK from its ACK is at least 0 (or none did): WND is WINDOW.");
        Wire x = Check.inState(4);
        Check.arrives(x, 510, ACK, 101, 20, 0, 0);
        c.infos("none did", x, 0, Check.WND, 20);
        Check.arrives(x, 509, ACK, 101, 1, 0, 0);
        c.infos("-1", x, 0, Check.WND, 20);
        Check.arrives(x, 500, ACK, 101, 1, 0, 0);
        c.infos("-10", x, 0, Check.WND, 20);
        Check.arrives(x, 510, ACK, 101, 19, 0, 0);
        c.infos("0, and the same ACK", x, 0, Check.WND, 19);
        Check.write(x, 8);
        Check.arrives(x, 510, ACK, 102, 18, 0, 0);
        c.infos("0, and a later ACK", x, 0, Check.WND, 18);
        Check.arrives(x, 511, ACK, 102, 17, 0, 0);
        c.infos("1", x, 0, Check.WND, 17);
        Check.arrives(x, 510, ACK, 103, 24, 0, 0);
        c.infos("-1 now: less by the ACK alone", x, 0, Check.WND, 16);
        Check.arrives(x, 511, ACK, 103, 0, 0, 0);
        c.infos("a WINDOW of 0 is one, too", x, 0, Check.WND, 0);
        Check.arrives(x, 524, ACK, 103, 24, 0, 0);
        c.infos("13", x, 0, Check.WND, 24);
        // The segment that came last isn't the one that set WND last.
        Check.arrives(x, 515, ACK, 103, 3, 0, 0);
        Check.arrives(x, 520, ACK, 103, 3, 0, 0);
        c.infos("later than the last, but not than the one that set WND", x, 0, Check.WND, 24);
    }

    private static void windowOfASyn(Check c) {
        c.says("the latest segment that set WND so is above 0, or is 0 and that of ACK from its ACK is at least 0 (or none did)");
        Wire x = Check.inState(4);
        Check.arrives(x, 495, ACK, 101, 7, 8, 0);
        c.infos("a SYN did not set it so: a SEQ before its own", x, 0, Check.WND, 7, Check.UNREAD, 3);
        x = Check.inState(3);
        Check.arrives(x, 495, ACK, 101, 7, 8, 0);
        c.infos("nor in LISTEN", x, 0, Check.WND, 7, Check.UNREAD, 3);
        x = Check.inState(4);
        Check.arrives(x, 510, ACK, 101, 7, 0, 0);
        x.abort(0);
        x.open(0, true, 100);
        Check.arrives(x, 499, SYN | ACK, 101, 24, 0, 0);
        Check.acks(x, 101, 9);
        c.infos("what was before open() counts no more", x, 0, Check.WND, 9);
    }

    private static void windowOfAnOldAck(Check c) {
        c.says("If a >= 0, and the offset of SEQ from the SEQ");
        Wire x = Check.inState(4);
        Check.acks(x, 100, 7);
        c.infos("a is -1", x, 0, Check.WND, 24);
        Check.acks(x, 101, 8);
        c.infos("a is 0", x, 0, Check.WND, 8);
        Check.arrives(x, 505, ACK, 100, 7, 0, 0);
        c.infos("a is -1, though SEQ is later", x, 0, Check.WND, 8);
        Check.arrives(x, 504, ACK, 101, 9, 0, 0);
        c.infos("and it does not count as one that did", x, 0, Check.WND, 9);
    }
}
