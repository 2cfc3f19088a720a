/** The edges of the terms NUMBERS, OFFSET, SEGMENT and LENGTH. */
public final class EdgeNumbersTest {
    private static final int SYN = 1, ACK = 2, FIN = 4, RST = 8;

    public static void main(String[] args) {
        Check.bothWays(c -> {
            ownNumbersWrap(c);
            theOwnFinWraps(c);
            theSynWraps(c);
            whatCameWraps(c);
            whatIsHeldWraps(c);
            whatIsComparedWraps(c);
            whatIsReckonedWraps(c);
            offset(c);
            ends(c);
            segment(c);
            length(c);
        });
    }

    private static void ownNumbersWrap(Check c) {
        c.says("NUMBERS count modulo 65536");
        Wire x = Check.established(65530, 500, 24, 0);
        c.infos("before the wrap", x, 0, Check.UNA, 65531, Check.NXT, 65531);
        x.write(0, 0x0807060504030201L, 8);
        x.write(0, 0x100F0E0D0C0B0A09L, 8);
        c.segment("over the wrap", x, 0, 0, Check.head(65531, ACK, 500, 24), 1, 2, 3, 4, 5, 6, 7, 8);
        c.segment("behind the wrap", x, 0, 1, Check.head(3, ACK, 500, 24), 9, 10, 11, 12, 13, 14, 15, 16);
        c.infos("behind the wrap", x, 0, Check.UNA, 65531, Check.NXT, 11, Check.KEPT, 16);
        Check.clear(x, 0);
        c.due("sent again", x.tick(2), 1);
        c.segment("over the wrap again", x, 0, 0, Check.head(65531, ACK, 500, 24), 1, 2, 3, 4, 5, 6, 7, 8);
        Check.acks(x, 65535, 8);
        c.infos("acknowledged just before the wrap", x, 0, Check.UNA, 65535, Check.KEPT, 12);
        Check.acks(x, 0, 8);
        c.infos("acknowledged up to the wrap", x, 0, Check.UNA, 0, Check.KEPT, 11);
        Check.acks(x, 11, 8);
        c.infos("all", x, 0, Check.UNA, 11, Check.NXT, 11, Check.KEPT, 0, Check.RETRY, -1);
    }

    private static void theOwnFinWraps(Check c) {
        c.says("NUMBERS count modulo 65536");
        Wire x = Check.established(65534, 500, 24, 0);
        x.close(0);
        c.segment("the FIN has 65535", x, 0, 0, Check.head(65535, FIN | ACK, 500, 24));
        c.infos("behind it", x, 0, Check.UNA, 65535, Check.NXT, 0);
        Check.acks(x, 0, 24);
        c.due("the FIN is acknowledged by 0", x.state(0), 6);
        x = Check.established(65533, 500, 24, 0);
        Check.write(x, 2);
        x.close(0);
        c.due("the FIN has 0", x.wire(0, 1, 0), 0);
        Check.acks(x, 0, 24);
        c.due("0 acknowledges the bytes alone", x.state(0), 5);
        Check.acks(x, 1, 24);
        c.due("1 the FIN, too", x.state(0), 6);
    }

    private static void theSynWraps(Check c) {
        c.says("NUMBERS count modulo 65536");
        Wire x = new Wire();
        x.open(0, true, 65535);
        c.infos("behind the SYN", x, 0, Check.UNA, 65535, Check.NXT, 0);
        c.due("ISS + 1 is not 1", Check.arrives(x, 7, SYN | ACK, 1, 24, 0, 0), 1);
        c.due("ISS + 1 is not ISS", Check.arrives(x, 7, SYN | ACK, 65535, 24, 0, 0), 1);
        c.due("SYN_SENT", x.state(0), 2);
        c.due("ISS + 1 is 0", Check.arrives(x, 65535, SYN | ACK, 0, 24, 0, 0), 1);
        c.due("ESTABLISHED", x.state(0), 4);
        c.infos("both wrapped", x, 0, Check.UNA, 0, Check.NXT, 0, Check.RCV, 0);
        x = new Wire();
        x.open(0, false, 65535);
        Check.arrives(x, 65535, SYN, 0, 24, 0, 0);
        c.segment("SYN and ACK", x, 0, 0, Check.head(65535, SYN | ACK, 0, 24));
        c.infos("SYN_RECEIVED", x, 0, Check.UNA, 65535, Check.NXT, 0, Check.RCV, 0);
        Check.arrives(x, 0, ACK, 0, 24, 0, 0);
        c.due("a is 1", x.state(0), 4);
    }

    private static void whatCameWraps(Check c) {
        c.says("NUMBERS count modulo 65536");
        Wire x = Check.established(100, 65533, 24, 0);
        Check.arrives(x, 65533, ACK, 101, 24, 2, 1);
        c.infos("just before the wrap", x, 0, Check.RCV, 65535);
        Check.arrives(x, 65535, ACK, 101, 24, 1, 3);
        c.infos("at the wrap", x, 0, Check.RCV, 0);
        Check.arrives(x, 0, ACK, 101, 24, 5, 4);
        c.infos("behind the wrap", x, 0, Check.RCV, 5, Check.UNREAD, 8);
        c.due("in order", x.read(0, 7), (7L << 56) + 0x07060504030201L);
        c.due("in order", x.read(0, 7), (1L << 56) + 8);
        x = Check.established(100, 65535, 24, 0);
        Check.arrives(x, 65535, FIN | ACK, 101, 24, 0, 0);
        c.infos("a FIN with 65535", x, 0, Check.RCV, 0);
        c.due("it came", x.state(0), 7);
        x = Check.established(100, 65532, 24, 0);
        Check.arrives(x, 65530, ACK, 101, 24, 8, 1);
        c.infos("the first two are old", x, 0, Check.RCV, 2, Check.UNREAD, 6);
    }

    private static void whatIsHeldWraps(Check c) {
        c.says("NUMBERS count modulo 65536");
        Wire x = Check.established(100, 65530, 24, 0);
        Check.arrives(x, 65534, ACK, 101, 24, 4, 5);
        c.infos("held", x, 0, Check.HELD, 1, Check.RCV, 65530);
        Check.arrives(x, 65530, ACK, 101, 24, 4, 1);
        c.infos("in order", x, 0, Check.HELD, 0, Check.RCV, 2);
        c.due("the bytes", x.read(0, 7), (7L << 56) + 0x07060504030201L);
        x = Check.established(100, 65534, 24, 0);
        Check.arrives(x, 1, FIN | ACK, 101, 24, 0, 0);
        Check.arrives(x, 65535, ACK, 101, 24, 8, 2);
        Check.arrives(x, 65534, ACK, 101, 24, 1, 1);
        c.infos("65535 and 0 are before a FIN with 1", x, 0, Check.RCV, 2, Check.UNREAD, 3, Check.HELD, 0);
        c.due("the FIN came", x.state(0), 7);
    }

    private static void whatIsComparedWraps(Check c) {
        c.says("NUMBERS count modulo 65536");
        Wire x = Check.established(100, 65535, 24, 0);
        Check.arrives(x, 65535, ACK, 101, 10, 0, 0);
        Check.arrives(x, 1, ACK, 101, 11, 0, 0);
        c.infos("1 is later than 65535", x, 0, Check.WND, 11);
        Check.arrives(x, 65535, ACK, 101, 12, 0, 0);
        c.infos("65535 is earlier than 1", x, 0, Check.WND, 11);
        // S 48, V 12; the byte with 65535 is TIMED, R 1: D -5, S 43, V 14.
        x = Check.established(65534, 500, 24, 6);
        Check.write(x, 2);
        x.tick(1);
        Check.acks(x, 0, 24);
        c.infos("65535 is before 0", x, 0, Check.RTO, 19);
        x = Check.established(65530, 500, 24, 0);
        Check.write(x, 8);
        c.due("MAX is 3: 4 is above it", Check.acks(x, 4, 24), 1);
        c.infos("nothing is acknowledged", x, 0, Check.UNA, 65531);
        c.due("3 is not", Check.acks(x, 3, 24), 0);
        c.infos("all is acknowledged", x, 0, Check.UNA, 3);
        c.due("MAX went on over the wrap", Check.max(x), 3);
        x = Check.established(65530, 500, 24, 0);
        Check.write(x, 8, 8);
        x.tick(2);
        c.infos("NXT is before MAX", x, 0, Check.NXT, 3);
        Check.acks(x, 11, 24);
        c.infos("3 is before 11", x, 0, Check.NXT, 11);
    }

    private static void whatIsReckonedWraps(Check c) {
        c.says("NUMBERS count modulo 65536");
        Wire x = Check.established(65535, 500, 24, 0);
        Check.acks(x, 0, 0);
        Check.write(x, 1);
        c.due("a PROBE", x.tick(2), 1);
        c.segment("UNA - 1 is 65535", x, 0, 0, Check.head(65535, ACK, 500, 24));
        x = new Wire();
        Check.arrives(x, 65535, SYN, 0, 0, 0, 0);
        c.segment("SEQ + LENGTH is 0", x, 0, 0, Check.head(0, RST | ACK, 0, 0));
        Check.arrives(x, 65535, 0, 0, 0, 8, 0);
        c.segment("SEQ + LENGTH is 7", x, 0, 1, Check.head(0, RST | ACK, 7, 0));
        x = new Wire();
        x.open(0, false, 65535);
        Check.arrives(x, 499, SYN, 0, 24, 0, 0);
        Check.clear(x, 0);
        x.abort(0);
        c.segment("NXT is 0", x, 0, 0, Check.head(0, RST, 0, 0));
    }

    private static void offset(Check c) {
        c.says("the OFFSET of x from y is what equals x - y modulo 65536 and lies from -32768 to 32767");
        int[] isses = {100, 65530, 32766, 32767, 40000};
        for (int iss : isses) {
            int una = iss + 1;
            Wire x = Check.established(iss, 500, 24, 0);
            c.due("32767: above MAX", Check.arrives(x, 500, ACK, una + 32767 & 65535, 24, 1, 1), 1);
            c.infos("that is all", x, 0, Check.UNREAD, 0);
            c.due("-32768: an old one", Check.arrives(x, 500, ACK, una + 32768 & 65535, 24, 1, 1), 0);
            c.infos("its byte is taken", x, 0, Check.UNREAD, 1);
            c.due("-1: an old one", Check.arrives(x, 501, ACK, una - 1 & 65535, 24, 1, 1), 1);
            c.infos("its byte is taken", x, 0, Check.UNREAD, 2);
            c.due("1: above MAX", Check.arrives(x, 502, ACK, una + 1 & 65535, 24, 1, 1), 1);
            c.infos("that is all", x, 0, Check.UNREAD, 2);
        }
        int[] far = {32767, 32768, 32769, 65535 - 10};
        for (int o : far) {
            Wire x = Check.inState(4);
            c.due("a RST from far away", Check.arrives(x, 500 + o & 65535, RST, 0, 0, 8, 0), 0);
            c.due("is not acceptable", x.state(0), 4);
        }
    }

    private static void ends(Check c) {
        c.says("ENDS are 0 and 1.");
        Wire x = new Wire();
        c.due("end 0", x.state(0), 0);
        c.due("end 1", x.state(1), 0);
        c.due("end -1", x.state(-1), -1);
        c.due("end 2", x.state(2), -1);
    }

    private static void segment(Check c) {
        c.says("A SEGMENT has a number SEQ, flags (a sum of SYN 1, ACK 2, FIN 4, RST 8), a number ACK (0 without that flag), "
            + "a WINDOW, and 0 .. 8 bytes.");
        Wire x = new Wire();
        x.forge(0, 65535, 0, 65535, 24, 0, 0);
        c.segment("no flag", x, 0, 0, Check.head(65535, 0, 0, 24));
        x.forge(0, 0, SYN | ACK | FIN | RST, 65535, 0, 8, 255);
        c.segment("all flags", x, 0, 1, Check.head(0, 15, 65535, 0), 255, 0, 1, 2, 3, 4, 5, 6);
        x.forge(0, 1, SYN | FIN | RST, 65535, 0, 1, 0);
        c.segment("all but ACK", x, 0, 2, Check.head(1, 13, 0, 0), 0);
        x = Check.inState(2);
        x.tick(8);
        c.segment("an end's SYN has ACK 0", x, 0, 0, Check.head(100, SYN, 0, 24));
        x = Check.inState(2);
        Check.write(x, 8, 8);
        Check.arrives(x, 499, SYN | ACK, 101, 24, 0, 0);
        c.due("16 bytes are two segments behind the ACK", Check.row(x), 3);
        c.due("8 bytes", x.wire(0, 1, 4), 8);
        c.due("8 bytes", x.wire(0, 2, 4), 8);
    }

    private static void length(Check c) {
        c.says("Its LENGTH is how many bytes it has, and 1 more for SYN and for FIN.");
        int[][] rows = {{0, 0, 0}, {0, 1, 1}, {0, 8, 8}, {SYN, 0, 1}, {SYN, 8, 9}, {FIN, 0, 1}, {FIN, 8, 9},
            {SYN | FIN, 0, 2}, {SYN | FIN, 1, 3}, {SYN | FIN, 8, 10}};
        for (int[] r : rows) {
            Wire x = new Wire();
            Check.arrives(x, 1000, r[0], 0, 0, r[1], 0);
            c.due("flags " + r[0] + ", " + r[1] + " bytes", x.wire(0, 0, 2), 1000 + r[2]);
        }
        Wire x = Check.inState(4);
        c.due("a FIN alone is acknowledged", Check.arrives(x, 500, FIN | ACK, 101, 24, 0, 0), 1);
        x = Check.inState(4);
        c.due("nothing is not", Check.arrives(x, 500, ACK, 101, 24, 0, 0), 0);
        c.infos("nothing waits", x, 0, Check.WAITS, 0);
    }
}
