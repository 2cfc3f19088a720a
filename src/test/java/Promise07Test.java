/** Promise 7: deliver. What comes of the segment is in the tests of the terms. */
public final class Promise07Test {
    public static void main(String[] args) {
        Check.bothWays(c -> {
            Wire x = Check.connected(100, 500);
            c.due("an empty row", x.deliver(0, 0), -1);
            c.due("end -1", x.deliver(-1, 0), -1);
            c.due("end 2", x.deliver(2, 0), -1);
            x.write(0, 1, 8);
            x.write(0, 2, 8);
            c.due("k -1", x.deliver(0, -1), -1);
            c.due("k 2 of 2", x.deliver(0, 2), -1);
            c.due("the other row", x.deliver(1, 0), -1);
            c.due("both are still there", x.wire(0, 0, -1), 2);
            c.due("the second one", x.deliver(0, 1), 1);
            c.due("is out of the row", x.wire(0, 0, -1), 1);
            c.due("the first one stays", x.wire(0, 0, 0), 101);
            c.infos("it came to end 1", x, 1, Check.HELD, 1, Check.RCV, 101);
            c.due("the first one", x.deliver(0, 0), 1);
            c.infos("in order again", x, 1, Check.HELD, 0, Check.RCV, 117, Check.UNREAD, 16);
            c.due("the row is empty", x.wire(0, 0, -1), 0);
            lostOnesCount(c);
            thoseBehindMoveUp(c);
        });
    }

    private static void lostOnesCount(Check c) {
        Wire x = Check.inState(4);
        for (int i = 0; i < 14; i++) {
            x.forge(0, i, 2, 0, 0, 0, 0);
        }
        x.write(0, 1, 8);
        x.write(0, 2, 8);
        c.due("the row is full", x.wire(0, 0, -1), 16);
        c.due("its ACK is lost", Check.arrives(x, 600, 2, 0, 0, 0, 0), 1);
        c.due("the row is full", x.wire(0, 0, -1), 16);
        c.due("the last one is the second piece", x.wire(0, 15, 0), 109);
        x.write(0, 3, 8);
        c.due("a piece is lost", Check.arrives(x, 500, 2, 117, 24, 0, 0), 1);
        c.infos("but it was sent", x, 0, Check.NXT, 125, Check.RETRY, 2);
        c.due("the row is full", x.wire(0, 0, -1), 16);
    }

    private static void thoseBehindMoveUp(Check c) {
        Wire x = new Wire();
        for (int i = 0; i < 16; i++) {
            x.forge(0, 1000 + i, 8, 0, i, i % 9, 10 * i);
        }
        c.due("nothing comes of a RST", x.deliver(0, 3), 0);
        c.due("15 are left", x.wire(0, 0, -1), 15);
        c.segment("before it", x, 0, 2, Check.head(1002, 8, 0, 2), 20, 21);
        c.segment("behind it", x, 0, 3, Check.head(1004, 8, 0, 4), 40, 41, 42, 43);
        c.segment("the last one", x, 0, 14, Check.head(1015, 8, 0, 15), 150, 151, 152, 153, 154, 155);
        c.due("no more", x.wire(0, 15, 0), -1);
    }
}
