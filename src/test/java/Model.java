import java.util.ArrayDeque;
import java.util.ArrayList;
import java.util.List;
import java.util.TreeMap;

/**
 * A second reading of the document, to compare StreamWire with. It shares nothing with it: own numbers
 * are counted from ISS without wrapping, what came is counted from the SYN of the other end, and
 * everything lies in lists.
 */
final class Model {
    static final int SYN = 1, ACK = 2, FIN = 4, RST = 8;

    static final class Segment {
        int seq, flags, ack, window;
        int[] bytes = new int[0];

        boolean has(int flag) {
            return (flags & flag) != 0;
        }

        int length() {
            return bytes.length + (has(SYN) ? 1 : 0) + (has(FIN) ? 1 : 0);
        }
    }

    final class End {
        final int me;
        int state, error, iss;
        /** Every byte written since open(): byte i has the position i + 1, the SYN 0. */
        List<Integer> written = new ArrayList<>();
        int una, nxt, max;
        boolean closed;
        int firstDue, came;
        ArrayDeque<Integer> unread = new ArrayDeque<>();
        TreeMap<Integer, Integer> held = new TreeMap<>();
        Integer fin;
        int wnd, peak = 16, half = 64, rto = 8, same, tries;
        int[] wndSetBy;
        Integer retry, ackWaits, wait, timed;
        int timedAt;
        Integer s;
        int v;

        End(int me) {
            this.me = me;
        }

        int number(int position) {
            return Math.floorMod(iss + position, 65536);
        }

        int rcv() {
            return Math.floorMod(firstDue + came, 65536);
        }

        int ownWindow() {
            return 24 - unread.size();
        }

        int finPosition() {
            return written.size() + 1;
        }

        int kept() {
            return state == 0 ? 0 : Math.max(0, finPosition() - Math.max(una, 1));
        }

        void send(int position, int flags, int count) {
            Segment g = new Segment();
            g.seq = number(position);
            g.flags = flags;
            g.window = ownWindow();
            if (state != 2) {
                g.flags |= ACK;
                g.ack = rcv();
                ackWaits = null;
            }
            g.bytes = new int[count];
            for (int i = 0; i < count; i++) {
                g.bytes[i] = written.get(position + i - 1);
            }
            push(me, g);
            if (g.length() > 0) {
                if (position == max && timed == null) {
                    timed = position;
                    timedAt = now;
                }
                max = Math.max(max, position + g.length());
                if (retry == null) {
                    retry = now + rto;
                }
            }
        }

        void ackAlone() {
            send(max, 0, 0);
        }

        void rst(int seq, int flags, int ack) {
            Segment g = new Segment();
            g.seq = seq;
            g.flags = flags;
            g.ack = ack;
            push(me, g);
        }

        void rstFor(Segment g) {
            if (g.has(ACK)) {
                rst(g.ack, RST, 0);
            } else {
                rst(0, RST | ACK, Math.floorMod(g.seq + g.length(), 65536));
            }
        }

        int room() {
            return Math.min(wnd, peak) - (nxt - una);
        }

        void flow() {
            if (!List.of(4, 5, 7, 8, 9).contains(state)) {
                return;
            }
            while (nxt < finPosition()) {
                int n = Math.min(8, Math.min(finPosition() - nxt, room()));
                if (n == 8 || n > 0 && nxt == una) {
                    send(nxt, 0, n);
                    nxt += n;
                } else {
                    break;
                }
            }
            if (nxt == finPosition() && closed && room() > 0) {
                send(nxt, FIN, 0);
                nxt++;
            }
            boolean something = nxt < finPosition() || closed && nxt == finPosition();
            if (wnd == 0 && nxt == una && something && retry == null) {
                retry = now + rto;
            }
        }

        void firstPiece() {
            int n = Math.min(8, Math.min(finPosition(), max) - una);
            if (n > 0) {
                send(una, 0, n);
            } else {
                send(una, FIN, 0);
            }
        }

        void measured() {
            int r = now - timedAt;
            if (s == null) {
                s = 8 * r;
                v = 2 * r;
            } else {
                int d = r - Math.floorDiv(s, 8);
                s = s + d;
                v = v + Math.abs(d) - Math.floorDiv(v, 4);
            }
            rto = Math.min(64, Math.max(2, Math.floorDiv(s, 8) + v));
            timed = null;
        }

        void beClosed() {
            state = 0;
            held.clear();
            fin = null;
            retry = null;
            ackWaits = null;
            wait = null;
            timed = null;
        }

        void beReset() {
            if (state != 8 && state != 9 && state != 10) {
                error = 1;
            }
            beClosed();
        }

        void arrive(Segment g) {
            if (state == 0) {
                if (!g.has(RST)) {
                    rstFor(g);
                }
            } else if (state == 1) {
                if (g.has(RST)) {
                    return;
                }
                if (g.has(ACK)) {
                    rstFor(g);
                } else if (g.has(SYN)) {
                    firstDue = g.seq + 1;
                    wnd = g.window;
                    state = 3;
                    send(0, SYN, 0);
                    nxt = 1;
                }
            } else if (state == 2) {
                arriveSynSent(g);
            } else {
                arriveLater(g);
            }
        }

        void arriveSynSent(Segment g) {
            if (g.has(ACK) && g.ack != number(1)) {
                if (!g.has(RST)) {
                    rstFor(g);
                }
            } else if (g.has(RST)) {
                if (g.has(ACK)) {
                    beReset();
                }
            } else if (g.has(SYN)) {
                firstDue = g.seq + 1;
                wnd = g.window;
                if (g.has(ACK)) {
                    una = 1;
                    retry = null;
                    tries = 0;
                    if (timed != null) {
                        measured();
                    }
                    state = 4;
                    ackAlone();
                } else {
                    state = 3;
                    send(0, SYN, 0);
                }
                flow();
            }
        }

        void arriveLater(Segment g) {
            int o = offset(g.seq, rcv());
            int w = ownWindow();
            boolean acceptable = g.length() == 0
                ? 0 <= o && o <= w
                : 0 <= o && o < w || 0 <= o + g.length() - 1 && o + g.length() - 1 < w;
            if (!acceptable) {
                if (state == 10 && g.has(FIN)) {
                    wait = now + 20;
                }
                if (!g.has(RST)) {
                    ackAlone();
                }
                return;
            }
            if (g.has(RST)) {
                if (o == 0) {
                    beReset();
                } else {
                    ackAlone();
                }
                return;
            }
            if (g.has(SYN)) {
                ackAlone();
                return;
            }
            if (!g.has(ACK)) {
                return;
            }
            if (!acknowledged(g)) {
                return;
            }
            content(g, o, w);
            flow();
        }

        /** Step (5): whether there is more to do. */
        boolean acknowledged(Segment g) {
            int a = offset(g.ack, number(una));
            if (state == 3) {
                if (a != 1) {
                    rst(g.ack, RST, 0);
                    return false;
                }
                state = 4;
            }
            if (a > max - una) {
                ackAlone();
                return false;
            }
            if (a > 0) {
                una += a;
                nxt = Math.max(nxt, una);
                wnd = Math.max(0, wnd - a);
                tries = 0;
                if (timed != null && timed < una) {
                    measured();
                }
                if (same >= 3) {
                    peak = half;
                } else if (peak < half) {
                    peak = Math.min(64, peak + 8);
                } else {
                    peak = Math.min(64, peak + 64 / peak);
                }
                same = 0;
                retry = una == max ? null : Integer.valueOf(now + rto);
                if (closed && una > finPosition()) {
                    if (state == 5) {
                        state = 6;
                    } else if (state == 8) {
                        state = 10;
                        wait = now + 20;
                    } else if (state == 9) {
                        beClosed();
                        return false;
                    }
                }
            }
            if (a == 0 && g.length() == 0 && g.window == wnd && una != max) {
                same++;
                if (same == 3) {
                    half = Math.max(8, (max - una) / 2);
                    timed = null;
                    firstPiece();
                    peak = half + 24;
                } else if (same > 3) {
                    peak = Math.min(64, peak + 8);
                }
            }
            if (a >= 0) {
                boolean sets = wndSetBy == null
                    || offset(g.seq, wndSetBy[0]) > 0
                    || offset(g.seq, wndSetBy[0]) == 0 && offset(g.ack, wndSetBy[1]) >= 0;
                if (sets) {
                    wnd = g.window;
                    wndSetBy = new int[] {g.seq, g.ack};
                }
            }
            return true;
        }

        /** Steps (6) and (7) without FLOW. */
        void content(Segment g, int o, int w) {
            boolean heldBefore = !held.isEmpty() || fin != null;
            int cameBefore = came;
            if (state == 4 || state == 5 || state == 6) {
                for (int i = 0; i < g.bytes.length; i++) {
                    int p = came + o + i;
                    if (o + i >= 0 && o + i <= w - 1 && (fin == null || p < fin)) {
                        held.putIfAbsent(p, g.bytes[i]);
                    }
                }
                int f = o + g.bytes.length;
                if (g.has(FIN) && f >= 0 && f <= w - 1 && fin == null) {
                    fin = came + f;
                }
                while (held.containsKey(came) && !(fin != null && fin == came)) {
                    unread.add(held.remove(came));
                    came++;
                }
                if (fin != null && fin == came) {
                    came++;
                    held.clear();
                    fin = null;
                    if (state == 4) {
                        state = 7;
                    } else if (state == 5) {
                        state = 8;
                    } else {
                        state = 10;
                        wait = now + 20;
                    }
                }
            }
            if (g.length() > 0) {
                boolean heldNow = !held.isEmpty() || fin != null;
                if (state > 6 || came == cameBefore || heldBefore || heldNow || ackWaits != null) {
                    ackAlone();
                } else {
                    ackWaits = now + 2;
                }
            }
        }

        void tick() {
            if (retry != null && retry == now) {
                retryNow();
            }
            if (ackWaits != null && ackWaits == now) {
                ackAlone();
            }
            if (wait != null && wait == now) {
                beClosed();
            }
        }

        void retryNow() {
            boolean all = una == max;
            if (!all) {
                tries++;
                if (tries == 6) {
                    beClosed();
                    error = 2;
                    return;
                }
            }
            rto = Math.min(64, rto * 2);
            retry = now + rto;
            timed = null;
            if (all) {
                send(una - 1, 0, 0);
            } else if (state == 2 || state == 3) {
                send(0, SYN, 0);
            } else {
                half = Math.max(8, (max - una) / 2);
                peak = 8;
                same = 0;
                nxt = una;
                if (wnd == 0) {
                    firstPiece();
                } else {
                    flow();
                }
            }
        }
    }

    final End[] ends = {new End(0), new End(1)};
    final List<List<Segment>> rows = List.of(new ArrayList<>(), new ArrayList<>());
    int now, sent;

    static int offset(int x, int y) {
        int d = Math.floorMod(x - y, 65536);
        return d >= 32768 ? d - 65536 : d;
    }

    void push(int from, Segment g) {
        sent++;
        if (rows.get(from).size() < 16) {
            rows.get(from).add(g);
        }
    }

    static boolean within(int x, int low, int high) {
        return low <= x && x <= high;
    }

    boolean none(int from, int k) {
        return !within(from, 0, 1) || !within(k, 0, rows.get(from).size() - 1);
    }

    int open(int end, boolean active, int iss) {
        if (!within(end, 0, 1) || !within(iss, 0, 65535) || ends[end].state != 0) {
            return -1;
        }
        End e = new End(end);
        ends[end] = e;
        e.iss = iss;
        e.state = active ? 2 : 1;
        if (active) {
            e.send(0, SYN, 0);
            e.nxt = 1;
        }
        return e.state;
    }

    int write(int end, long bytes, int n) {
        if (!within(end, 0, 1) || !within(n, 1, 8) || !List.of(2, 3, 4, 7).contains(ends[end].state)) {
            return -1;
        }
        End e = ends[end];
        int count = 0;
        while (count < n && e.kept() < 32) {
            e.written.add((int) (bytes >> (8 * count) & 255));
            count++;
        }
        e.flow();
        return count;
    }

    long read(int end, int n) {
        if (!within(end, 0, 1) || !within(n, 1, 7)) {
            return -1;
        }
        End e = ends[end];
        if (e.unread.isEmpty()) {
            return e.state == 0 || e.state >= 7 ? -1 : 0;
        }
        boolean small = e.ownWindow() < 8;
        long answer = 0;
        long factor = 1;
        int count = 0;
        while (count < n && !e.unread.isEmpty()) {
            answer += e.unread.remove() * factor;
            factor *= 256;
            count++;
        }
        if (small && e.ownWindow() >= 8 && within(e.state, 4, 6)) {
            e.ackAlone();
        }
        return answer + count * 72057594037927936L;
    }

    int close(int end) {
        if (!within(end, 0, 1)) {
            return -1;
        }
        End e = ends[end];
        if (e.state == 1 || e.state == 2) {
            e.beClosed();
        } else if (e.state == 4 || e.state == 7) {
            e.state = e.state == 4 ? 5 : 9;
            e.closed = true;
            e.flow();
        } else {
            return -1;
        }
        return e.state;
    }

    int abort(int end) {
        if (!within(end, 0, 1) || ends[end].state == 0) {
            return -1;
        }
        End e = ends[end];
        int before = e.state;
        e.beClosed();
        if (within(before, 3, 9)) {
            e.rst(e.number(e.nxt), RST, 0);
        }
        return before;
    }

    int deliver(int from, int k) {
        if (none(from, k)) {
            return -1;
        }
        sent = 0;
        Segment g = rows.get(from).remove(k);
        ends[1 - from].arrive(g);
        return sent;
    }

    int drop(int from, int k) {
        if (none(from, k)) {
            return -1;
        }
        rows.get(from).remove(k);
        return rows.get(from).size();
    }

    int twice(int from, int k) {
        if (none(from, k)) {
            return -1;
        }
        List<Segment> row = rows.get(from);
        if (row.size() == 16) {
            return -2;
        }
        row.add(row.get(k));
        return row.size();
    }

    int forge(int from, int seq, int flags, int ack, int window, int n, int b) {
        boolean right = within(from, 0, 1) && within(seq, 0, 65535) && within(flags, 0, 15)
            && within(ack, 0, 65535) && within(window, 0, 24) && within(n, 0, 8);
        if (!right) {
            return -1;
        }
        if (rows.get(from).size() == 16) {
            return -2;
        }
        Segment g = new Segment();
        g.seq = seq;
        g.flags = flags;
        g.ack = g.has(ACK) ? ack : 0;
        g.window = window;
        g.bytes = new int[n];
        for (int i = 0; i < n; i++) {
            g.bytes[i] = b + i & 255;
        }
        rows.get(from).add(g);
        return rows.get(from).size();
    }

    int tick(int n) {
        if (!within(n, 1, 1000)) {
            return -1;
        }
        sent = 0;
        for (int i = 0; i < n; i++) {
            now++;
            ends[0].tick();
            ends[1].tick();
        }
        return sent;
    }

    int state(int end) {
        return within(end, 0, 1) ? ends[end].state : -1;
    }

    int info(int end, int what) {
        if (!within(end, 0, 1) || !within(what, 0, 13)) {
            return -1;
        }
        End e = ends[end];
        if (what < 3) {
            return what == 0 ? e.error : what == 1 ? e.kept() : e.unread.size();
        }
        if (e.state < 2) {
            return what == 10 ? -1 : 0;
        }
        int[] answers = {
            e.number(e.una), e.number(e.nxt), e.rcv(), e.wnd, e.peak, e.half, e.rto,
            e.retry == null ? -1 : e.retry - now, e.ackWaits == null ? 0 : 1, e.tries,
            e.held.isEmpty() && e.fin == null ? 0 : 1,
        };
        return answers[what - 3];
    }

    int wire(int from, int k, int what) {
        if (!within(from, 0, 1)) {
            return -1;
        }
        if (what == -1) {
            return rows.get(from).size();
        }
        if (none(from, k)) {
            return -1;
        }
        Segment g = rows.get(from).get(k);
        switch (what) {
            case 0: return g.seq;
            case 1: return g.flags;
            case 2: return g.ack;
            case 3: return g.window;
            case 4: return g.bytes.length;
            default: return within(what - 5, 0, g.bytes.length - 1) ? g.bytes[what - 5] : -1;
        }
    }
}
