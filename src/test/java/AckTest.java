/** Step (5) of A SEGMENT ARRIVES: what an ACK does. */
public final class AckTest {
    private static final int ACK = 2, FIN = 4;

    public static void main(String[] args) {
        Check.bothWays(c -> {
            tooNewAndTooOld(c);
            aNewOne(c);
            theWindow(c);
            theSameAgain(c);
            notTheSame(c);
            theFin(c);
        });
    }

    private static void tooNewAndTooOld(Check c) {
        Wire x = Check.inState(4);
        x.write(0, 1, 8);
        Check.clear(x, 0);
        c.due("above MAX", Check.arrives(x, 500, ACK, 110, 3, 4, 1), 1);
        c.segment("an ACK", x, 0, 0, Check.head(109, ACK, 500, 24));
        c.infos("that is all", x, 0, Check.RCV, 500, Check.UNA, 101, Check.WND, 24);
        c.due("an old one", Check.arrives(x, 500, ACK, 90, 3, 4, 1), 0);
        c.infos("its bytes are taken, its window not", x, 0, Check.RCV, 504, Check.UNA, 101, Check.WND, 24, Check.WAITS, 1);
        c.due("far away", Check.arrives(x, 504, ACK, 101 + 32767, 3, 0, 0), 1);
        c.due("farther, so an old one", Check.arrives(x, 504, ACK, 101 + 32768, 3, 0, 0), 0);
        c.infos("nothing came of it", x, 0, Check.UNA, 101, Check.WND, 24);
    }

    private static void aNewOne(Check c) {
        Wire x = Check.slow();
        x.write(0, 1, 8);
        x.write(0, 1, 8);
        x.tick(5);
        // R is 5: D 5 - 6, S 47, V 12 + 1 - 3; the second piece isn't TIMED.
        Check.arrives(x, 500, ACK, 103, 24, 0, 0);
        c.infos("two bytes", x, 0, Check.UNA, 103, Check.NXT, 117, Check.KEPT, 14, Check.PEAK, 24, Check.RTO, 15,
            Check.RETRY, 15, Check.TRIES, 0, Check.WND, 24);
        x.tick(3);
        Check.arrives(x, 500, ACK, 109, 24, 0, 0);
        c.infos("nothing is TIMED", x, 0, Check.RTO, 15, Check.RETRY, 15, Check.PEAK, 32, Check.KEPT, 8);
        Check.arrives(x, 500, ACK, 117, 24, 0, 0);
        c.infos("all", x, 0, Check.RETRY, -1, Check.PEAK, 40, Check.KEPT, 0);
        // PEAK grows by 8 below HALF (64), then by 64 / PEAK, 64 at most.
        int[] peaks = {48, 56, 64, 64};
        for (int i = 0; i < 4; i++) {
            x.write(0, 1, 1);
            Check.arrives(x, 500, ACK, 118 + i, 24, 0, 0);
            c.infos("PEAK", x, 0, Check.PEAK, peaks[i]);
        }
        goBackAndOn(c);
    }

    /** After RETRY NXT is before MAX; an ACK beyond it takes it along. */
    private static void goBackAndOn(Check c) {
        Wire x = Check.inState(4);
        x.write(0, 1, 8);
        x.write(0, 1, 8);
        x.tick(2);
        c.infos("back", x, 0, Check.UNA, 101, Check.NXT, 109, Check.TRIES, 1, Check.PEAK, 8, Check.HALF, 8);
        Check.clear(x, 0);
        c.due("all is acknowledged", Check.arrives(x, 500, ACK, 117, 24, 0, 0), 0);
        c.infos("on", x, 0, Check.UNA, 117, Check.NXT, 117, Check.TRIES, 0, Check.RETRY, -1, Check.PEAK, 16);
        x = Check.inState(4);
        x.write(0, 1, 8);
        x.write(0, 1, 8);
        x.tick(2);
        Check.clear(x, 0);
        c.due("up to NXT", Check.arrives(x, 500, ACK, 109, 24, 0, 0), 1);
        c.due("the second piece again", x.wire(0, 0, 0), 109);
        c.due("an ACK alone has SEQ MAX", Check.arrives(x, 400, ACK, 109, 24, 0, 0), 1);
        c.due("an ACK alone has SEQ MAX", x.wire(0, 1, 0), 117);
    }

    private static void theWindow(Check c) {
        Wire x = Check.inState(4);
        c.infos("of the SYN", x, 0, Check.WND, 24);
        Check.arrives(x, 510, ACK, 101, 20, 0, 0);
        c.infos("none did before", x, 0, Check.WND, 20);
        Check.arrives(x, 509, ACK, 101, 11, 0, 0);
        c.infos("an earlier SEQ", x, 0, Check.WND, 20);
        Check.arrives(x, 510, ACK, 101, 12, 0, 0);
        c.infos("the same SEQ and ACK", x, 0, Check.WND, 12);
        x.write(0, 1, 8);
        Check.arrives(x, 509, ACK, 104, 24, 0, 0);
        c.infos("an earlier SEQ with a new ACK: less by 3", x, 0, Check.WND, 9, Check.UNA, 104);
        Check.arrives(x, 510, ACK, 107, 13, 0, 0);
        c.infos("the same SEQ and a later ACK", x, 0, Check.WND, 13, Check.UNA, 107);
        Check.arrives(x, 510, ACK, 106, 2, 0, 0);
        c.infos("an old ACK", x, 0, Check.WND, 13);
        Check.arrives(x, 511, ACK, 106, 2, 0, 0);
        c.infos("an old ACK with a later SEQ", x, 0, Check.WND, 13);
        Check.arrives(x, 511, ACK, 107, 2, 0, 0);
        c.infos("a later SEQ", x, 0, Check.WND, 2);
        Check.arrives(x, 505, ACK, 109, 2, 0, 0);
        c.infos("just 0", x, 0, Check.WND, 0, Check.UNA, 109);
        notBelowZero(c);
        theFirstAckOfTheSyn(c);
    }

    private static void notBelowZero(Check c) {
        Wire x = Check.inState(4);
        x.write(0, 1, 8);
        Check.arrives(x, 510, ACK, 101, 3, 0, 0);
        Check.arrives(x, 505, ACK, 109, 9, 0, 0);
        c.infos("not below 0", x, 0, Check.WND, 0, Check.UNA, 109);
    }

    /** An ACK that is older than the one that set WND, with the same SEQ, but still from UNA on. */
    private static void theFirstAckOfTheSyn(Check c) {
        Wire x = Check.inState(3);
        Check.arrives(x, 500, ACK, 101, 17, 0, 0);
        c.infos("SYN_RECEIVED, too", x, 0, Check.WND, 17);
        x = Check.inState(3);
        x.write(0, 1, 8);
        Check.arrives(x, 505, ACK, 101, 17, 0, 0);
        Check.arrives(x, 503, ACK, 105, 17, 0, 0);
        c.infos("17 - 4", x, 0, Check.WND, 13, Check.UNA, 105);
    }

    private static Wire threePieces() {
        Wire x = Check.inState(4);
        x.write(0, 1, 1);
        Check.arrives(x, 500, ACK, 102, 24, 0, 0);
        for (int i = 0; i < 3; i++) {
            x.write(0, 0x0807060504030201L + i, 8);
        }
        Check.clear(x, 0);
        return x;
    }

    private static void theSameAgain(Check c) {
        Wire x = threePieces();
        c.infos("24 on their way", x, 0, Check.UNA, 102, Check.NXT, 126, Check.PEAK, 24, Check.WND, 24);
        c.due("1", Check.arrives(x, 500, ACK, 102, 24, 0, 0), 0);
        c.due("2", Check.arrives(x, 500, ACK, 102, 24, 0, 0), 0);
        c.infos("nothing yet", x, 0, Check.HALF, 64, Check.PEAK, 24);
        c.due("3", Check.arrives(x, 500, ACK, 102, 24, 0, 0), 1);
        c.segment("the FIRST piece", x, 0, 0, Check.head(102, ACK, 500, 24), 1, 2, 3, 4, 5, 6, 7, 8);
        c.infos("half of 24", x, 0, Check.HALF, 12, Check.PEAK, 36, Check.NXT, 126, Check.RETRY, 2, Check.TRIES, 0);
        int[] peaks = {44, 52, 60, 64, 64};
        for (int p : peaks) {
            c.due("more", Check.arrives(x, 500, ACK, 102, 24, 0, 0), 0);
            c.infos("PEAK", x, 0, Check.PEAK, p, Check.HALF, 12);
        }
        x.tick(1);
        Check.arrives(x, 500, ACK, 110, 24, 0, 0);
        c.infos("PEAK is HALF; nothing was TIMED", x, 0, Check.PEAK, 12, Check.HALF, 12, Check.RTO, 2, Check.RETRY, 2);
        Check.arrives(x, 500, ACK, 118, 24, 0, 0);
        c.infos("SAME is 0: by 64 / 12", x, 0, Check.PEAK, 17);
        twoAreNotThree(c);
        shortPiecesAndTheFin(c);
    }

    private static void twoAreNotThree(Check c) {
        Wire x = threePieces();
        Check.arrives(x, 500, ACK, 102, 24, 0, 0);
        Check.arrives(x, 500, ACK, 102, 24, 0, 0);
        Check.arrives(x, 500, ACK, 103, 24, 0, 0);
        Check.arrives(x, 500, ACK, 103, 24, 0, 0);
        c.due("SAME began anew", Check.arrives(x, 500, ACK, 103, 24, 0, 0), 0);
        c.infos("SAME is 2", x, 0, Check.HALF, 64, Check.PEAK, 32);
        c.due("the third", Check.arrives(x, 500, ACK, 103, 24, 0, 0), 1);
        c.infos("half of 23", x, 0, Check.HALF, 11, Check.PEAK, 35);
        x = threePieces();
        Check.arrives(x, 500, ACK, 102, 24, 0, 0);
        Check.arrives(x, 500, ACK, 102, 24, 0, 0);
        x.tick(2);
        c.infos("RETRY", x, 0, Check.HALF, 12, Check.PEAK, 8);
        Check.clear(x, 0);
        c.due("SAME is 0 by RETRY", Check.arrives(x, 500, ACK, 102, 24, 0, 0), 0);
        c.due("SAME is 0 by RETRY", Check.arrives(x, 500, ACK, 102, 24, 0, 0), 0);
        c.due("the third: PEAK 36 lets the two behind go, too", Check.arrives(x, 500, ACK, 102, 24, 0, 0), 3);
    }

    private static void shortPiecesAndTheFin(Check c) {
        Wire x = Check.inState(4);
        Check.arrives(x, 500, ACK, 101, 24, 0, 0);
        x.write(0, 0x030201, 3);
        x.write(0, 0x060504, 3);
        Check.clear(x, 0);
        for (int i = 0; i < 3; i++) {
            Check.arrives(x, 500, ACK, 101, 24, 0, 0);
        }
        c.due("one segment", x.wire(0, 0, -1), 1);
        c.segment("just what is before MAX", x, 0, 0, Check.head(101, ACK, 500, 24), 1, 2, 3);
        c.infos("HALF is 8 at least", x, 0, Check.HALF, 8, Check.PEAK, 32);
        x = Check.inState(5);
        for (int i = 0; i < 3; i++) {
            Check.arrives(x, 500, ACK, 101, 24, 0, 0);
        }
        c.due("one segment", x.wire(0, 0, -1), 1);
        c.segment("the FIN", x, 0, 0, Check.head(101, ACK | FIN, 500, 24));
        x = Check.inState(4);
        x.write(0, 9, 1);
        x.close(0);
        Check.clear(x, 0);
        for (int i = 0; i < 3; i++) {
            Check.arrives(x, 500, ACK, 101, 24, 0, 0);
        }
        c.segment("the byte without the FIN", x, 0, 0, Check.head(101, ACK, 500, 24), 9);
    }

    private static void notTheSame(Check c) {
        Wire x = threePieces();
        int rcv = 500;
        for (int i = 0; i < 4; i++) {
            Check.arrives(x, rcv, ACK, 102, 24, 1, 0);
            rcv++;
        }
        c.infos("with bytes", x, 0, Check.HALF, 64, Check.PEAK, 24);
        for (int i = 0; i < 8; i++) {
            Check.arrives(x, rcv, ACK, 102, 23 - i % 2, 0, 0);
        }
        c.infos("with other windows", x, 0, Check.HALF, 64, Check.PEAK, 24);
        x = Check.inState(4);
        for (int i = 0; i < 8; i++) {
            c.due("nothing on its way", Check.arrives(x, 500, ACK, 101, 24, 0, 0), 0);
        }
        c.infos("nothing on its way", x, 0, Check.HALF, 64, Check.PEAK, 16);
    }

    private static void theFin(Check c) {
        Wire x = Check.inState(5);
        Check.arrives(x, 500, ACK, 102, 24, 3, 1);
        c.due("5 becomes 6", x.state(0), 6);
        c.infos("its bytes are taken", x, 0, Check.UNREAD, 3, Check.RETRY, -1);
        x = Check.inState(5);
        Check.arrives(x, 500, ACK | FIN, 102, 24, 3, 1);
        c.due("5 becomes 6 becomes 10", x.state(0), 10);
        x.tick(19);
        c.due("for 20 ticks", x.state(0), 10);
        x.tick(1);
        c.due("CLOSED", x.state(0), 0);
        x = Check.inState(8);
        x.tick(1);
        Check.arrives(x, 501, ACK, 102, 24, 0, 0);
        c.due("8 becomes 10", x.state(0), 10);
        x.tick(19);
        c.due("for 20 ticks", x.state(0), 10);
        x.tick(1);
        c.due("CLOSED", x.state(0), 0);
        x = Check.inState(9);
        c.due("nothing more is sent", Check.arrives(x, 501, ACK | FIN, 102, 24, 3, 1), 0);
        c.due("9 ends", x.state(0), 0);
        c.infos("no error", x, 0, Check.ERROR, 0);
        x = Check.inState(9);
        Check.arrives(x, 501, ACK, 101, 24, 0, 0);
        c.due("not acknowledged", x.state(0), 9);
    }
}
