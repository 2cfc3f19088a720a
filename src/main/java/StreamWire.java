/**
 * Two ends of a connection over a link that loses, doubles and reorders.
 * The words of the comments (UNA, FLOW, RETRY, ..) are those of the document.
 */
public final class StreamWire {
    public static final int REFUSED = -1, FULL = -2;

    private static final int CLOSED = 0, LISTEN = 1, SYN_SENT = 2, SYN_RECEIVED = 3,
        ESTABLISHED = 4, FIN_WAIT_1 = 5, FIN_WAIT_2 = 6, CLOSE_WAIT = 7, CLOSING = 8,
        LAST_ACK = 9, TIME_WAIT = 10;
    private static final int SYN = 1, ACK = 2, FIN = 4, RST = 8, ALL_FLAGS = 15;
    private static final int ERROR_RESET = 1, ERROR_TIMEOUT = 2;

    private static final int ENDS = 2;
    private static final int NUMBER_MASK = 65535;
    private static final int NONE = -1;
    private static final int PIECE_MOST = 8;
    private static final int READ_MOST = 7;
    private static final int KEPT_MOST = 32;
    private static final int UNREAD_MOST = 24;
    // A power of 2 that holds 32 kept bytes, or a window of 24: a number's lowest bits are its place.
    private static final int RING = 32, RING_MASK = 31, RINGS = 64;
    private static final int ROW_MOST = 16;
    // One slot more than the two rows have: what a full row loses is written there.
    private static final int LOST_SLOT = 32, SLOTS = 33, SLOTS_BYTES = 264;
    private static final int PEAK_FIRST = 16, PEAK_LEAST = 8, PEAK_MOST = 64, PEAK_STEP = 8;
    private static final int HALF_FIRST = 64, HALF_LEAST = 8;
    private static final int RTO_FIRST = 8, RTO_LEAST = 2, RTO_MOST = 64;
    private static final int SAME_LIMIT = 3, SAME_BONUS = 24;
    private static final int TRIES_LIMIT = 6;
    private static final int ACK_DELAY = 2, WAIT_TIME = 20;
    private static final int TICKS_MOST = 1000;
    private static final int WORTH_TELLING = 8;

    // The state of each end; its own numbers and bytes.
    private final int[] stateOf = new int[ENDS];
    private final int[] error = new int[ENDS];
    private final int[] iss = new int[ENDS];
    private final int[] una = new int[ENDS];
    private final int[] nxt = new int[ENDS];
    private final int[] max = new int[ENDS];
    // The number behind the last byte written: the FIN's, when there is one.
    private final int[] writtenTo = new int[ENDS];
    private final int[] kept = new int[ENDS];
    private final byte[] keptBytes = new byte[RINGS];

    // What came from the other end. Unread and held bytes share a ring: a held byte
    // becomes unread where it lies, when RCV goes on over it.
    private final int[] rcv = new int[ENDS];
    private final int[] unread = new int[ENDS];
    private final int[] unreadFrom = new int[ENDS];
    private final byte[] cameBytes = new byte[RINGS];
    private final boolean[] held = new boolean[RINGS];
    private final int[] heldFin = new int[ENDS];

    // How much may be sent. wndSeq is NONE until a segment has set WND by its ACK.
    private final int[] wnd = new int[ENDS];
    private final int[] wndSeq = new int[ENDS];
    private final int[] wndAck = new int[ENDS];
    private final int[] peak = new int[ENDS];
    private final int[] half = new int[ENDS];
    private final int[] same = new int[ENDS];

    // Times, NONE where nothing is set or TIMED; smoothed is NONE before the first measure.
    private final int[] rto = new int[ENDS];
    private final int[] tries = new int[ENDS];
    private final int[] retryAt = new int[ENDS];
    private final int[] ackAt = new int[ENDS];
    private final int[] waitTill = new int[ENDS];
    private final int[] timedAt = new int[ENDS];
    private final int[] timedSeq = new int[ENDS];
    private final int[] smoothed = new int[ENDS];
    private final int[] variance = new int[ENDS];

    // The link: the row from end 0 has the slots 0 .. 15, that from end 1 the slots 16 .. 31.
    private final int[] rowCount = new int[ENDS];
    private final int[] slotSeq = new int[SLOTS];
    private final int[] slotFlags = new int[SLOTS];
    private final int[] slotAck = new int[SLOTS];
    private final int[] slotWindow = new int[SLOTS];
    private final int[] slotSize = new int[SLOTS];
    private final byte[] slotBytes = new byte[SLOTS_BYTES];

    private int now = 0;
    private int sent = 0;

    public StreamWire() {
        begin(0, 0);
        begin(1, 0);
    }

    // ---- the calls ----

    public int open(int end, boolean active, int iss) {
        if (!isEnd(end) || !isNumber(iss) || stateOf[end] != CLOSED) {
            return REFUSED;
        }
        begin(end, iss);
        if (active) {
            stateOf[end] = SYN_SENT;
            send(end, iss, SYN, 0);
            nxt[end] = behind(iss, 1);
        } else {
            stateOf[end] = LISTEN;
        }
        return stateOf[end];
    }

    public int write(int end, long bytes, int n) {
        if (!isEnd(end) || n < 1 || n > PIECE_MOST || !mayWrite(stateOf[end])) {
            return REFUSED;
        }
        int free = KEPT_MOST - kept[end];
        int count = n < free ? n : free;
        for (int i = 0; i < count; i++) {
            keptBytes[end * RING + (writtenTo[end] & RING_MASK)] = (byte) (bytes >>> (8 * i));
            writtenTo[end] = behind(writtenTo[end], 1);
        }
        kept[end] += count;
        flow(end);
        return count;
    }

    public long read(int end, int n) {
        if (!isEnd(end) || n < 1 || n > READ_MOST) {
            return REFUSED;
        }
        int s = stateOf[end];
        if (unread[end] == 0) {
            return s == CLOSED || s >= CLOSE_WAIT ? -1 : 0;
        }
        int windowBefore = ownWindow(end);
        int count = n < unread[end] ? n : unread[end];
        long answer = (long) count << 56;
        for (int i = 0; i < count; i++) {
            long value = cameBytes[end * RING + (unreadFrom[end] & RING_MASK)] & 255;
            answer |= value << (8 * i);
            unreadFrom[end] = behind(unreadFrom[end], 1);
        }
        unread[end] -= count;
        if (windowBefore < WORTH_TELLING && ownWindow(end) >= WORTH_TELLING && takesBytes(s)) {
            sendAck(end);
        }
        return answer;
    }

    public int close(int end) {
        if (!isEnd(end)) {
            return REFUSED;
        }
        switch (stateOf[end]) {
            case LISTEN:
            case SYN_SENT:
                endAll(end);
                break;
            case ESTABLISHED:
                stateOf[end] = FIN_WAIT_1;
                break;
            case CLOSE_WAIT:
                stateOf[end] = LAST_ACK;
                break;
            default:
                return REFUSED;
        }
        flow(end);
        return stateOf[end];
    }

    public int abort(int end) {
        if (!isEnd(end) || stateOf[end] == CLOSED) {
            return REFUSED;
        }
        int before = stateOf[end];
        if (before >= SYN_RECEIVED && before <= LAST_ACK) {
            sendReset(end, nxt[end], RST, 0);
        }
        endAll(end);
        return before;
    }

    public int deliver(int from, int k) {
        if (!isSegment(from, k)) {
            return REFUSED;
        }
        sent = 0;
        int end = 1 - from;
        // What the end sends goes into the other row, so the segment may stay in its slot till it is taken.
        int slot = from * ROW_MOST + k;
        switch (stateOf[end]) {
            case CLOSED:
                arriveClosed(end, slot);
                break;
            case LISTEN:
                arriveListen(end, slot);
                break;
            case SYN_SENT:
                arriveSynSent(end, slot);
                break;
            default:
                arriveConnected(end, slot);
                break;
        }
        takeOut(from, k);
        return sent;
    }

    public int drop(int from, int k) {
        if (!isSegment(from, k)) {
            return REFUSED;
        }
        takeOut(from, k);
        return rowCount[from];
    }

    public int twice(int from, int k) {
        if (!isSegment(from, k)) {
            return REFUSED;
        }
        if (rowCount[from] == ROW_MOST) {
            return FULL;
        }
        int slot = nextSlot(from);
        copySlot(from * ROW_MOST + k, slot);
        return rowCount[from];
    }

    public int forge(int from, int seq, int flags, int ack, int window, int n, int b) {
        if (!isEnd(from) || !isNumber(seq) || !isNumber(ack) || flags < 0 || flags > ALL_FLAGS
            || window < 0 || window > UNREAD_MOST || n < 0 || n > PIECE_MOST) {
            return REFUSED;
        }
        if (rowCount[from] == ROW_MOST) {
            return FULL;
        }
        int slot = nextSlot(from);
        slotSeq[slot] = seq;
        slotFlags[slot] = flags;
        slotAck[slot] = (flags & ACK) != 0 ? ack : 0;
        slotWindow[slot] = window;
        slotSize[slot] = n;
        for (int i = 0; i < n; i++) {
            slotBytes[slot * PIECE_MOST + i] = (byte) (b + i);
        }
        return rowCount[from];
    }

    public int tick(int n) {
        if (n < 1 || n > TICKS_MOST) {
            return REFUSED;
        }
        sent = 0;
        for (int i = 0; i < n; i++) {
            now++;
            for (int end = 0; end < ENDS; end++) {
                if (retryAt[end] == now) {
                    retry(end);
                }
                if (ackAt[end] == now) {
                    sendAck(end);
                }
                if (waitTill[end] == now) {
                    endAll(end);
                }
            }
        }
        return sent;
    }

    public int state(int end) {
        return isEnd(end) ? stateOf[end] : REFUSED;
    }

    public int info(int end, int what) {
        if (!isEnd(end) || what < 0 || what > 13) {
            return REFUSED;
        }
        switch (what) {
            case 0: return error[end];
            case 1: return kept[end];
            case 2: return unread[end];
            default: break;
        }
        if (stateOf[end] == CLOSED || stateOf[end] == LISTEN) {
            return what == 10 ? -1 : 0;
        }
        switch (what) {
            case 3: return una[end];
            case 4: return nxt[end];
            case 5: return rcv[end];
            case 6: return wnd[end];
            case 7: return peak[end];
            case 8: return half[end];
            case 9: return rto[end];
            case 10: return retryAt[end] == NONE ? -1 : retryAt[end] - now;
            case 11: return ackAt[end] == NONE ? 0 : 1;
            case 12: return tries[end];
            default: return holdsAny(end) ? 1 : 0;
        }
    }

    public int wire(int from, int k, int what) {
        if (!isEnd(from)) {
            return REFUSED;
        }
        if (what == -1) {
            return rowCount[from];
        }
        if (!isSegment(from, k)) {
            return REFUSED;
        }
        int slot = from * ROW_MOST + k;
        switch (what) {
            case 0: return slotSeq[slot];
            case 1: return slotFlags[slot];
            case 2: return slotAck[slot];
            case 3: return slotWindow[slot];
            case 4: return slotSize[slot];
            default: break;
        }
        if (what < 5 || what >= 5 + slotSize[slot]) {
            return REFUSED;
        }
        return slotBytes[slot * PIECE_MOST + what - 5] & 255;
    }

    // ---- what is asked of arguments, numbers and states ----

    private static boolean isEnd(int end) {
        return end == 0 || end == 1;
    }

    private static boolean isNumber(int x) {
        return x >= 0 && x <= NUMBER_MASK;
    }

    private boolean isSegment(int from, int k) {
        return (from == 0 || from == 1) && k >= 0 && k < rowCount[from];
    }

    private static int offset(int x, int y) {
        return (short) (x - y);
    }

    private static int behind(int number, int count) {
        return (number + count) & NUMBER_MASK;
    }

    private static boolean mayWrite(int s) {
        return s == SYN_SENT || s == SYN_RECEIVED || s == ESTABLISHED || s == CLOSE_WAIT;
    }

    private static boolean takesBytes(int s) {
        return s == ESTABLISHED || s == FIN_WAIT_1 || s == FIN_WAIT_2;
    }

    private static boolean maySend(int s) {
        return s == ESTABLISHED || s == FIN_WAIT_1 || s == CLOSE_WAIT || s == CLOSING || s == LAST_ACK;
    }

    // An end is closed (has a FIN among its numbers) in just these states.
    private static boolean hasFin(int s) {
        return s == FIN_WAIT_1 || s == FIN_WAIT_2 || s >= CLOSING;
    }

    private int ownWindow(int end) {
        return UNREAD_MOST - unread[end];
    }

    // ---- an end begins and ends ----

    private void begin(int end, int first) {
        endAll(end);
        error[end] = 0;
        iss[end] = first;
        una[end] = first;
        nxt[end] = first;
        max[end] = first;
        writtenTo[end] = behind(first, 1);
        rcv[end] = 0;
        unread[end] = 0;
        unreadFrom[end] = 0;
        wnd[end] = 0;
        wndSeq[end] = NONE;
        wndAck[end] = 0;
        peak[end] = PEAK_FIRST;
        half[end] = HALF_FIRST;
        same[end] = 0;
        rto[end] = RTO_FIRST;
        tries[end] = 0;
        timedSeq[end] = 0;
        smoothed[end] = NONE;
        variance[end] = 0;
    }

    private void endAll(int end) {
        stateOf[end] = CLOSED;
        kept[end] = 0;
        holdNothing(end);
        retryAt[end] = NONE;
        ackAt[end] = NONE;
        waitTill[end] = NONE;
        timedAt[end] = NONE;
    }

    private void reset(int end) {
        if (stateOf[end] < CLOSING) {
            error[end] = ERROR_RESET;
        }
        endAll(end);
    }

    // ---- the link ----

    private int nextSlot(int from) {
        if (rowCount[from] == ROW_MOST) {
            return LOST_SLOT;
        }
        rowCount[from]++;
        return from * ROW_MOST + rowCount[from] - 1;
    }

    private void copySlot(int source, int target) {
        slotSeq[target] = slotSeq[source];
        slotFlags[target] = slotFlags[source];
        slotAck[target] = slotAck[source];
        slotWindow[target] = slotWindow[source];
        slotSize[target] = slotSize[source];
        for (int i = 0; i < PIECE_MOST; i++) {
            slotBytes[target * PIECE_MOST + i] = slotBytes[source * PIECE_MOST + i];
        }
    }

    private void takeOut(int from, int k) {
        int last = from * ROW_MOST + rowCount[from] - 1;
        for (int slot = from * ROW_MOST + k; slot < last; slot++) {
            copySlot(slot + 1, slot);
        }
        rowCount[from]--;
    }

    private static int lengthOf(int flags, int size) {
        return size + ((flags & SYN) != 0 ? 1 : 0) + ((flags & FIN) != 0 ? 1 : 0);
    }

    // ---- what an end sends ----

    private void send(int end, int seq, int flags, int size) {
        // Only the SYN is sent in SYN_SENT, and there RCV isn't known yet.
        boolean acks = stateOf[end] != SYN_SENT;
        int slot = nextSlot(end);
        slotSeq[slot] = seq;
        slotFlags[slot] = acks ? flags | ACK : flags;
        slotAck[slot] = acks ? rcv[end] : 0;
        slotWindow[slot] = ownWindow(end);
        slotSize[slot] = size;
        for (int i = 0; i < size; i++) {
            slotBytes[slot * PIECE_MOST + i] = keptBytes[end * RING + ((seq + i) & RING_MASK)];
        }
        sent++;
        ackAt[end] = NONE;
        int length = lengthOf(flags, size);
        if (length == 0) {
            return;
        }
        if (seq == max[end] && timedAt[end] == NONE) {
            timedSeq[end] = seq;
            timedAt[end] = now;
        }
        int next = behind(seq, length);
        if (offset(next, max[end]) > 0) {
            max[end] = next;
        }
        setRetryIfNone(end);
    }

    private void sendAck(int end) {
        send(end, max[end], 0, 0);
    }

    private void sendReset(int end, int seq, int flags, int ack) {
        int slot = nextSlot(end);
        slotSeq[slot] = seq;
        slotFlags[slot] = flags;
        slotAck[slot] = ack;
        slotWindow[slot] = 0;
        slotSize[slot] = 0;
        sent++;
    }

    private void sendFirstPiece(int end) {
        int bytes = offset(max[end], una[end]);
        if (bytes > kept[end]) {
            bytes = kept[end];
        }
        if (bytes > PIECE_MOST) {
            bytes = PIECE_MOST;
        }
        send(end, una[end], bytes > 0 ? 0 : FIN, bytes);
    }

    private void setRetryIfNone(int end) {
        if (retryAt[end] == NONE) {
            retryAt[end] = now + rto[end];
        }
    }

    private void flow(int end) {
        if (!maySend(stateOf[end])) {
            return;
        }
        int reach = wnd[end] < peak[end] ? wnd[end] : peak[end];
        boolean more = true;
        // Each round sends a byte or more of the kept ones, so the bound is never what ends this.
        for (int round = 0; round <= KEPT_MOST && more; round++) {
            int room = reach - offset(nxt[end], una[end]);
            int left = offset(writtenTo[end], nxt[end]);
            int n = left < room ? left : room;
            n = n < PIECE_MOST ? n : PIECE_MOST;
            more = n == PIECE_MOST || n > 0 && nxt[end] == una[end];
            if (more) {
                send(end, nxt[end], 0, n);
                nxt[end] = behind(nxt[end], n);
            }
        }
        int left = offset(writtenTo[end], nxt[end]);
        int room = reach - offset(nxt[end], una[end]);
        boolean finLeft = hasFin(stateOf[end]) && left >= 0;
        if (left == 0 && finLeft && room > 0) {
            send(end, nxt[end], FIN, 0);
            nxt[end] = behind(nxt[end], 1);
        }
        if (wnd[end] == 0 && nxt[end] == una[end] && (left > 0 || finLeft)) {
            setRetryIfNone(end);
        }
    }

    // ---- a segment arrives ----

    private void arriveClosed(int end, int slot) {
        if ((slotFlags[slot] & RST) == 0) {
            answerReset(end, slot);
        }
    }

    private void answerReset(int end, int slot) {
        if ((slotFlags[slot] & ACK) != 0) {
            sendReset(end, slotAck[slot], RST, 0);
            return;
        }
        int length = lengthOf(slotFlags[slot], slotSize[slot]);
        int next = behind(slotSeq[slot], length);
        sendReset(end, 0, RST | ACK, next);
    }

    private void arriveListen(int end, int slot) {
        int flags = slotFlags[slot];
        if ((flags & RST) != 0) {
            return;
        }
        if ((flags & ACK) != 0) {
            answerReset(end, slot);
            return;
        }
        if ((flags & SYN) != 0) {
            meetOther(end, slot);
            stateOf[end] = SYN_RECEIVED;
            send(end, iss[end], SYN, 0);
            nxt[end] = behind(iss[end], 1);
        }
    }

    private void meetOther(int end, int slot) {
        rcv[end] = behind(slotSeq[slot], 1);
        unreadFrom[end] = rcv[end];
        wnd[end] = slotWindow[slot];
    }

    private void arriveSynSent(int end, int slot) {
        int flags = slotFlags[slot];
        boolean acks = (flags & ACK) != 0;
        boolean resets = (flags & RST) != 0;
        if (acks && slotAck[slot] != behind(iss[end], 1)) {
            if (!resets) {
                answerReset(end, slot);
            }
            return;
        }
        if (resets) {
            if (acks) {
                reset(end);
            }
            return;
        }
        if ((flags & SYN) == 0) {
            return;
        }
        meetOther(end, slot);
        if (acks) {
            una[end] = slotAck[slot];
            retryAt[end] = NONE;
            tries[end] = 0;
            if (timedAt[end] != NONE) {
                measure(end);
            }
            stateOf[end] = ESTABLISHED;
            sendAck(end);
        } else {
            stateOf[end] = SYN_RECEIVED;
            send(end, iss[end], SYN, 0);
        }
        flow(end);
    }

    private void arriveConnected(int end, int slot) {
        int flags = slotFlags[slot];
        int length = lengthOf(flags, slotSize[slot]);
        int o = offset(slotSeq[slot], rcv[end]);
        if (!isAcceptable(end, o, length)) {
            answerOutside(end, flags);
            return;
        }
        if ((flags & RST) != 0 && o == 0) {
            reset(end);
            return;
        }
        if ((flags & (RST | SYN)) != 0) {
            sendAck(end);
            return;
        }
        int a = offset(slotAck[slot], una[end]);
        if ((flags & ACK) == 0 || !isAckUsable(end, slot, a)) {
            return;
        }
        if (a > 0) {
            takeNewAck(end, slotAck[slot], a);
            takeFinAck(end);
        }
        if (stateOf[end] == CLOSED) {
            return;
        }
        if (a == 0 && length == 0) {
            takeSameAck(end, slotWindow[slot]);
        }
        if (a >= 0) {
            takeWindow(end, slot);
        }
        takeContent(end, slot, length);
        flow(end);
    }

    private boolean isAcceptable(int end, int o, int length) {
        int window = ownWindow(end);
        if (length == 0) {
            return o >= 0 && o <= window;
        }
        int last = o + length - 1;
        return o >= 0 && o < window || last >= 0 && last < window;
    }

    private void answerOutside(int end, int flags) {
        if (stateOf[end] == TIME_WAIT && (flags & FIN) != 0) {
            waitTill[end] = now + WAIT_TIME;
        }
        if ((flags & RST) == 0) {
            sendAck(end);
        }
    }

    private boolean isAckUsable(int end, int slot, int a) {
        if (stateOf[end] == SYN_RECEIVED) {
            if (a != 1) {
                sendReset(end, slotAck[slot], RST, 0);
                return false;
            }
            stateOf[end] = ESTABLISHED;
        }
        if (a > offset(max[end], una[end])) {
            sendAck(end);
            return false;
        }
        return true;
    }

    private void takeNewAck(int end, int ack, int a) {
        una[end] = ack;
        // The SYN and the FIN are numbers too, but not kept ones.
        int left = offset(writtenTo[end], ack);
        kept[end] = left > 0 ? left : 0;
        if (offset(nxt[end], ack) < 0) {
            nxt[end] = ack;
        }
        wnd[end] = wnd[end] > a ? wnd[end] - a : 0;
        tries[end] = 0;
        if (timedAt[end] != NONE && offset(timedSeq[end], ack) < 0) {
            measure(end);
        }
        growPeak(end);
        same[end] = 0;
        retryAt[end] = una[end] == max[end] ? NONE : now + rto[end];
    }

    private void growPeak(int end) {
        if (same[end] >= SAME_LIMIT) {
            peak[end] = half[end];
            return;
        }
        int step = PEAK_STEP;
        // PEAK is never below 8; that it isn't 0 is asked only because it divides.
        if (peak[end] >= half[end] && peak[end] > 0) {
            step = PEAK_MOST / peak[end];
        }
        widenPeak(end, step);
    }

    private void widenPeak(int end, int step) {
        int wider = peak[end] + step;
        peak[end] = wider < PEAK_MOST ? wider : PEAK_MOST;
    }

    private void takeFinAck(int end) {
        if (!hasFin(stateOf[end]) || una[end] != behind(writtenTo[end], 1)) {
            return;
        }
        switch (stateOf[end]) {
            case FIN_WAIT_1:
                stateOf[end] = FIN_WAIT_2;
                break;
            case CLOSING:
                stateOf[end] = TIME_WAIT;
                waitTill[end] = now + WAIT_TIME;
                break;
            case LAST_ACK:
                endAll(end);
                break;
            default:
                break;
        }
    }

    private void takeSameAck(int end, int window) {
        if (window != wnd[end] || una[end] == max[end]) {
            return;
        }
        same[end]++;
        if (same[end] == SAME_LIMIT) {
            halve(end);
            timedAt[end] = NONE;
            sendFirstPiece(end);
            peak[end] = half[end] + SAME_BONUS;
        } else if (same[end] > SAME_LIMIT) {
            widenPeak(end, PEAK_STEP);
        }
    }

    private void halve(int end) {
        int flying = offset(max[end], una[end]);
        half[end] = flying / 2 > HALF_LEAST ? flying / 2 : HALF_LEAST;
    }

    private void takeWindow(int end, int slot) {
        if (wndSeq[end] != NONE) {
            int later = offset(slotSeq[slot], wndSeq[end]);
            if (later < 0 || later == 0 && offset(slotAck[slot], wndAck[end]) < 0) {
                return;
            }
        }
        wnd[end] = slotWindow[slot];
        wndSeq[end] = slotSeq[slot];
        wndAck[end] = slotAck[slot];
    }

    private void takeContent(int end, int slot, int length) {
        if (length == 0) {
            return;
        }
        int rcvBefore = rcv[end];
        boolean anyHeld = holdsAny(end);
        if (takesBytes(stateOf[end])) {
            hold(end, slot);
            goOn(end);
        }
        anyHeld = anyHeld || holdsAny(end);
        if (stateOf[end] > FIN_WAIT_2 || rcv[end] == rcvBefore || anyHeld || ackAt[end] != NONE) {
            sendAck(end);
        } else {
            ackAt[end] = now + ACK_DELAY;
        }
    }

    // ---- bytes put in order ----

    private void hold(int end, int slot) {
        int window = ownWindow(end);
        int size = slotSize[slot];
        for (int i = 0; i < size; i++) {
            int number = behind(slotSeq[slot], i);
            int o = offset(number, rcv[end]);
            boolean fits = o >= 0 && o < window
                && (heldFin[end] == NONE || offset(number, heldFin[end]) < 0);
            int place = end * RING + (number & RING_MASK);
            if (fits && !held[place]) {
                held[place] = true;
                cameBytes[place] = slotBytes[slot * PIECE_MOST + i];
            }
        }
        int fin = behind(slotSeq[slot], size);
        int finOffset = offset(fin, rcv[end]);
        if ((slotFlags[slot] & FIN) != 0 && heldFin[end] == NONE && finOffset >= 0 && finOffset < window) {
            heldFin[end] = fin;
        }
    }

    private void goOn(int end) {
        for (int i = 0; i < UNREAD_MOST; i++) {
            int place = end * RING + (rcv[end] & RING_MASK);
            if (!held[place] || rcv[end] == heldFin[end]) {
                break;
            }
            held[place] = false;
            unread[end]++;
            rcv[end] = behind(rcv[end], 1);
        }
        if (rcv[end] == heldFin[end]) {
            rcv[end] = behind(rcv[end], 1);
            holdNothing(end);
            takeFin(end);
        }
    }

    private void takeFin(int end) {
        switch (stateOf[end]) {
            case ESTABLISHED:
                stateOf[end] = CLOSE_WAIT;
                break;
            case FIN_WAIT_1:
                stateOf[end] = CLOSING;
                break;
            default:
                stateOf[end] = TIME_WAIT;
                waitTill[end] = now + WAIT_TIME;
                break;
        }
    }

    private boolean holdsAny(int end) {
        boolean any = heldFin[end] != NONE;
        for (int i = 0; i < RING; i++) {
            any = any || held[end * RING + i];
        }
        return any;
    }

    private void holdNothing(int end) {
        heldFin[end] = NONE;
        for (int i = 0; i < RING; i++) {
            held[end * RING + i] = false;
        }
    }

    // ---- time ----

    private void measure(int end) {
        int took = now - timedAt[end];
        if (smoothed[end] == NONE) {
            smoothed[end] = 8 * took;
            variance[end] = 2 * took;
        } else {
            int d = took - smoothed[end] / 8;
            smoothed[end] += d;
            variance[end] += (d < 0 ? -d : d) - variance[end] / 4;
        }
        int wanted = smoothed[end] / 8 + variance[end];
        wanted = wanted < RTO_MOST ? wanted : RTO_MOST;
        rto[end] = wanted > RTO_LEAST ? wanted : RTO_LEAST;
        timedAt[end] = NONE;
    }

    private void retry(int end) {
        boolean outstanding = una[end] != max[end];
        if (outstanding) {
            tries[end]++;
            if (tries[end] == TRIES_LIMIT) {
                error[end] = ERROR_TIMEOUT;
                endAll(end);
                return;
            }
        }
        rto[end] = 2 * rto[end] < RTO_MOST ? 2 * rto[end] : RTO_MOST;
        retryAt[end] = now + rto[end];
        timedAt[end] = NONE;
        if (!outstanding) {
            int probe = behind(una[end], -1);
            send(end, probe, 0, 0);
        } else if (stateOf[end] == SYN_SENT || stateOf[end] == SYN_RECEIVED) {
            send(end, iss[end], SYN, 0);
        } else {
            sendAgain(end);
        }
    }

    private void sendAgain(int end) {
        halve(end);
        peak[end] = PEAK_LEAST;
        same[end] = 0;
        nxt[end] = una[end];
        if (wnd[end] == 0) {
            sendFirstPiece(end);
        } else {
            flow(end);
        }
    }
}
