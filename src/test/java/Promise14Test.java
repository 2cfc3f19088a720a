/** Promise 14: wire. */
public final class Promise14Test {
    public static void main(String[] args) {
        Check.bothWays(c -> {
            Wire x = new Wire();
            c.due("none", x.wire(0, 0, 0), -1);
            c.due("how many", x.wire(0, 0, -1), 0);
            x.forge(1, 300, 6, 400, 17, 3, 254);
            c.segment("all of it", x, 1, 0, Check.head(300, 6, 400, 17), 254, 255, 0);
            c.due("no fourth byte", x.wire(1, 0, 8), -1);
            c.due("no such byte", x.wire(1, 0, 12), -1);
            c.due("what 13", x.wire(1, 0, 13), -1);
            c.due("what -2", x.wire(1, 0, -2), -1);
            c.due("what at its least", x.wire(1, 0, Integer.MIN_VALUE), -1);
            c.due("what at its greatest", x.wire(1, 0, Integer.MAX_VALUE), -1);
            c.due("k -1", x.wire(1, -1, 0), -1);
            c.due("k 1 of 1", x.wire(1, 1, 0), -1);
            c.due("how many, any k", x.wire(1, 99, -1), 1);
            c.due("how many, any k", x.wire(1, -99, -1), 1);
            c.due("end -1", x.wire(-1, 0, 0), -1);
            c.due("end 2", x.wire(2, 0, 0), -1);
            c.due("end 2, how many", x.wire(2, 0, -1), -1);
            c.due("end -1, how many", x.wire(-1, 0, -1), -1);
            x.forge(1, 1, 2, 1, 1, 8, 0);
            x.forge(1, 1, 2, 1, 1, 8, 100);
            c.due("the eighth byte", x.wire(1, 2, 12), 107);
            c.due("no ninth byte", x.wire(1, 2, 13), -1);
            // A shorter segment in a slot that had a longer one.
            x.drop(1, 2);
            x.drop(1, 1);
            x.forge(1, 1, 2, 1, 1, 1, 9);
            c.segment("nothing of the one before", x, 1, 1, Check.head(1, 2, 1, 1), 9);
        });
    }
}
