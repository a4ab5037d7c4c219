import java.util.ArrayDeque;
import java.util.ArrayList;
import java.util.Arrays;
import java.util.Comparator;
import java.util.Deque;
import java.util.List;
import java.util.TreeMap;
import java.util.TreeSet;

/**
 * The document written a second time, with the whole Java library and no thought of room or speed, to be compared
 * with GrantNet. It also counts how often the rare things happen, so that a test can tell that it saw them.
 */
final class Model {
    enum Rare {
        QUEUE_FULL, NO_SPINE, SPINE_OFF, ONE_SPINE, LOST, DUE_FULL, ASKED, GIVEN_UP, FORGOTTEN, EXECUTED_AGAIN, LATE,
        TRIED, FAILED, ASK_NOT_BELOW_NEXT, ASK_PERMITS, TIE_OF_MISSING, TIE_OF_LEFT, IN_AGAIN, BEYOND_GRANTED,
        FOURTH_KNOWN, OLD_LENGTH, DONE_AGAIN, LESSER_GRANT
    }

    static final int DATA = 0;
    static final int GRANT = 1;
    static final int ASK = 2;
    static final int DONE = 3;

    record Packet(int kind, int message, int count, int priority, int goal) { }

    static final class Sender {
        int from;
        int to;
        int length;
        int mode;
        int state = 0;
        int next = 0;
        int permitted;
        int level = 3;
        TreeSet<Integer> wanted = new TreeSet<>();
        int quiet = 0;
        int tries = 0;
        int ended = 0;

        int left() {
            return length - next + wanted.size();
        }
    }

    static final class Known {
        int message;
        int length;
        int arrival;
        TreeSet<Integer> in = new TreeSet<>();
        int granted;
        int silence = 0;
        int asks = 0;

        int missing() {
            return length - in.size();
        }

        int leastMissing() {
            int i = 0;
            while (in.contains(i)) {
                i++;
            }
            return i;
        }
    }

    final int[] seen = new int[Rare.values().length];
    int clock = 0;
    final List<Sender> senders = new ArrayList<>();
    final List<TreeMap<Integer, Known>> known = new ArrayList<>();
    final TreeMap<Integer, Integer> finishedIn = new TreeMap<>();
    final int[] executed = new int[48];
    final int[] arrivals = new int[8];
    final List<Deque<Packet>> due = new ArrayList<>();
    final List<List<Integer>> finished = new ArrayList<>();
    final List<List<Integer>> chosen = new ArrayList<>();
    final int[] packetsSent = new int[8];
    final Packet[] link = new Packet[24];
    final int[] losing = new int[24];
    final List<List<Deque<Packet>>> queues = new ArrayList<>();
    final boolean[] on = {true, true};
    final int[] nextSpine = {0, 0};
    int dropped = 0;
    int lost = 0;

    Model() {
        for (int h = 0; h < 8; h++) {
            known.add(new TreeMap<>());
            due.add(new ArrayDeque<>());
            finished.add(new ArrayList<>());
            chosen.add(new ArrayList<>());
        }
        for (int l = 0; l < 24; l++) {
            queues.add(new ArrayList<>());
            for (int p = 0; p < 4; p++) {
                queues.get(l).add(new ArrayDeque<>());
            }
        }
    }

    private void saw(Rare r) {
        seen[r.ordinal()]++;
    }

    // ---- the calls that change something

    int message(int from, int to, int length, int mode) {
        if (from < 0 || from > 7 || to < 0 || to > 7 || from == to || length < 1 || length > 60) {
            return -1;
        }
        if (mode < 0 || mode > 1 || senders.size() == 48) {
            return -1;
        }
        Sender s = new Sender();
        s.from = from;
        s.to = to;
        s.length = length;
        s.mode = mode;
        s.permitted = Math.min(4, length);
        senders.add(s);
        return senders.size() - 1;
    }

    int slot(int n) {
        if (n < 1 || n > 200) {
            throw new IllegalArgumentException();
        }
        for (int i = 0; i < n; i++) {
            clock++;
            stepA();
            stepB();
            for (int h = 0; h < 8; h++) {
                stepC1(h);
                stepC2(h);
                stepC3(h);
            }
        }
        return clock;
    }

    boolean lose(int l, int count) {
        if (l < 0 || l > 23 || count < 0 || count > 100) {
            return false;
        }
        losing[l] = count;
        return true;
    }

    boolean spine(int s, boolean isOn) {
        if (s != 0 && s != 1) {
            return false;
        }
        on[s] = isOn;
        return true;
    }

    // ---- A

    private void stepA() {
        for (int l = 0; l < 24; l++) {
            Packet p = link[l];
            link[l] = null;
            if (p == null) {
                continue;
            }
            switch (l) {
                case 0, 1, 2, 3, 20, 22 -> atLeaf(0, p);
                case 4, 5, 6, 7, 21, 23 -> atLeaf(1, p);
                case 12, 18 -> atSpine(0, p);
                case 13, 19 -> atSpine(1, p);
                case 8, 9, 10, 11 -> atHost(l - 8, p);
                default -> atHost(l - 10, p);
            }
        }
    }

    private void atLeaf(int leaf, Packet p) {
        boolean own = leaf == 0 ? p.goal < 4 : p.goal >= 4;
        if (own) {
            behind(8 + 6 * leaf + p.goal % 4, p);
            return;
        }
        if (!on[0] && !on[1]) {
            dropped++;
            saw(Rare.NO_SPINE);
            return;
        }
        int s = nextSpine[leaf];
        if (on[0] != on[1]) {
            s = on[0] ? 0 : 1;
            saw(Rare.ONE_SPINE);
        }
        nextSpine[leaf] = s == 0 ? 1 : 0;
        behind(8 + 6 * leaf + 4 + s, p);
    }

    private void atSpine(int s, Packet p) {
        if (on[s]) {
            behind(20 + 2 * s + (p.goal < 4 ? 0 : 1), p);
        } else {
            dropped++;
            saw(Rare.SPINE_OFF);
        }
    }

    private void behind(int l, Packet p) {
        Deque<Packet> q = queues.get(l).get(p.priority);
        if (q.size() == 8) {
            dropped++;
            saw(Rare.QUEUE_FULL);
        } else {
            q.addLast(p);
        }
    }

    private void atHost(int h, Packet p) {
        if (p.goal != h) {
            throw new IllegalStateException("a packet came to a wrong host");
        }
        if (p.kind == DATA) {
            dataAt(h, p);
        } else {
            answerAt(p);
        }
    }

    private void dataAt(int h, Packet p) {
        int m = p.message;
        if (finishedIn.containsKey(m)) {
            saw(Rare.DONE_AGAIN);
            makeDue(h, DONE, m, 0);
            return;
        }
        Known k = known.get(h).get(m);
        if (k == null) {
            k = new Known();
            k.message = m;
            k.length = senders.get(m).length;
            k.arrival = ++arrivals[h];
            k.granted = Math.min(4, k.length);
            known.get(h).put(m, k);
        }
        k.silence = 0;
        k.asks = 0;
        if (!k.in.add(p.count)) {
            saw(Rare.IN_AGAIN);
        }
        if (k.in.size() > k.granted) {
            saw(Rare.BEYOND_GRANTED);
        }
        if (k.missing() == 0) {
            known.get(h).remove(m);
            finishedIn.put(m, clock);
            executed[m]++;
            if (executed[m] > 1) {
                saw(Rare.EXECUTED_AGAIN);
            }
            finished.get(h).add(m);
            makeDue(h, DONE, m, 0);
        }
    }

    private void answerAt(Packet p) {
        Sender s = senders.get(p.message);
        if (s.state != 0) {
            saw(Rare.LATE);
            return;
        }
        if (p.kind == GRANT) {
            if (p.count / 4 < s.permitted) {
                saw(Rare.LESSER_GRANT);
            }
            if (p.count / 4 > s.permitted) {
                s.permitted = p.count / 4;
            }
            s.level = p.count % 4;
        }
        if (p.kind == ASK) {
            if (p.count / 64 > s.permitted) {
                s.permitted = p.count / 64;
                saw(Rare.ASK_PERMITS);
            }
            if (p.count % 64 < s.next) {
                s.wanted.add(p.count % 64);
            } else {
                saw(Rare.ASK_NOT_BELOW_NEXT);
            }
        }
        if (p.kind == DONE) {
            s.state = 1;
            s.ended = clock;
        }
        s.quiet = 0;
        s.tries = 0;
    }

    private void makeDue(int h, int kind, int m, int count) {
        if (due.get(h).size() < 24) {
            due.get(h).addLast(new Packet(kind, m, count, 0, senders.get(m).from));
        } else {
            saw(Rare.DUE_FULL);
        }
    }

    // ---- B

    private void stepB() {
        for (int l = 8; l < 24; l++) {
            if ((l == 20 || l == 21) && !on[0] || (l == 22 || l == 23) && !on[1]) {
                continue;
            }
            for (Deque<Packet> q : queues.get(l)) {
                if (!q.isEmpty()) {
                    comesTo(l, q.removeFirst());
                    break;
                }
            }
        }
    }

    private void comesTo(int l, Packet p) {
        if (losing[l] > 0) {
            losing[l]--;
            lost++;
            saw(Rare.LOST);
        } else {
            link[l] = p;
        }
    }

    // ---- C

    private void stepC1(int h) {
        for (Known k : new ArrayList<>(known.get(h).values())) {
            k.silence++;
            if (k.silence == 16) {
                k.silence = 0;
                k.asks++;
                if (k.asks == 8) {
                    known.get(h).remove(k.message);
                    saw(Rare.GIVEN_UP);
                } else {
                    makeDue(h, ASK, k.message, 64 * k.granted + k.leastMissing());
                    saw(Rare.ASKED);
                }
            }
        }
        for (int m : new ArrayList<>(finishedIn.keySet())) {
            Sender s = senders.get(m);
            if (s.to == h && s.mode == 1 && clock >= finishedIn.get(m) + 30) {
                finishedIn.remove(m);
                saw(Rare.FORGOTTEN);
            }
        }
        choose(h);
    }

    private void choose(int h) {
        List<Known> order = new ArrayList<>(known.get(h).values());
        order.sort(Comparator.comparingInt(Known::missing).thenComparingInt(k -> k.arrival));
        for (int i = 1; i < order.size() && i <= 3; i++) {
            if (order.get(i).missing() == order.get(i - 1).missing()) {
                saw(Rare.TIE_OF_MISSING);
            }
        }
        chosen.get(h).clear();
        for (int i = 0; i < order.size(); i++) {
            if (i == 3) {
                saw(Rare.FOURTH_KNOWN);
                break;
            }
            Known k = order.get(i);
            chosen.get(h).add(k.message);
            int target = Math.min(k.length, k.in.size() + 6);
            if (target > k.granted) {
                k.granted = target;
                makeDue(h, GRANT, k.message, 4 * target + 1 + i);
            }
        }
    }

    private void stepC2(int h) {
        for (Sender s : senders) {
            if (s.from != h || s.state != 0) {
                continue;
            }
            s.quiet++;
            if (s.quiet == 40) {
                s.quiet = 0;
                s.tries++;
                saw(Rare.TRIED);
                if (s.tries == 6) {
                    s.state = 2;
                    s.ended = clock;
                    saw(Rare.FAILED);
                } else if (0 < s.next) {
                    s.wanted.add(0);
                }
            }
        }
    }

    private void stepC3(int h) {
        if (!due.get(h).isEmpty()) {
            packetsSent[h]++;
            comesTo(h, due.get(h).removeFirst());
            return;
        }
        List<Integer> able = new ArrayList<>();
        for (int m = 0; m < senders.size(); m++) {
            Sender s = senders.get(m);
            if (s.from == h && s.state == 0 && (!s.wanted.isEmpty() || s.next < s.permitted)) {
                able.add(m);
            }
        }
        if (able.isEmpty()) {
            return;
        }
        // A stable sort: of two alike the lesser number stays ahead.
        able.sort(Comparator.comparingInt(m -> senders.get(m).left()));
        if (able.size() > 1 && senders.get(able.get(0)).left() == senders.get(able.get(1)).left()) {
            saw(Rare.TIE_OF_LEFT);
        }
        int m = able.get(0);
        Sender s = senders.get(m);
        int i = s.wanted.isEmpty() ? s.next++ : s.wanted.pollFirst();
        packetsSent[h]++;
        comesTo(h, new Packet(DATA, m, i, i < 4 ? firstPriority(h, s.length) : s.level, s.to));
    }

    private int firstPriority(int h, int length) {
        return length <= cutoff(h, 1) ? 1 : length <= cutoff(h, 2) ? 2 : 3;
    }

    private int cutoff(int h, int thirds) {
        List<Integer> lengths = new ArrayList<>();
        for (Sender s : senders) {
            if (s.from == h) {
                lengths.add(s.length);
            }
        }
        if (lengths.isEmpty()) {
            return 0;
        }
        if (lengths.size() > 16) {
            saw(Rare.OLD_LENGTH);
            lengths = new ArrayList<>(lengths.subList(lengths.size() - 16, lengths.size()));
        }
        int[] sorted = lengths.stream().mapToInt(x -> x).toArray();
        Arrays.sort(sorted);
        return sorted[thirds * sorted.length / 3];
    }

    // ---- the calls that only answer

    int sent(int m, int what) {
        if (m < 0 || m >= senders.size()) {
            return -1;
        }
        Sender s = senders.get(m);
        int[] all = {s.state, s.next, s.permitted, s.left(), s.quiet, s.tries, s.level, s.ended};
        return what < 0 || what >= all.length ? -1 : all[what];
    }

    int received(int m, int what) {
        if (m < 0 || m >= senders.size()) {
            return -1;
        }
        Known k = known.get(senders.get(m).to).get(m);
        int[] all = {finishedIn.containsKey(m) ? 2 : 0, executed[m], 0, 0, 0, 0, 0};
        if (k != null) {
            all = new int[] {1, executed[m], k.missing(), k.granted, k.silence, k.asks, k.arrival};
        }
        return what < 0 || what >= all.length ? -1 : all[what];
    }

    boolean in(int m, int i) {
        if (m < 0 || m >= senders.size() || i < 0 || i >= senders.get(m).length) {
            return false;
        }
        Known k = known.get(senders.get(m).to).get(m);
        return finishedIn.containsKey(m) || k != null && k.in.contains(i);
    }

    int finished(int h, int k) {
        if (h < 0 || h > 7 || k < 0 || k > 63 || k >= finished.get(h).size()) {
            return -1;
        }
        return finished.get(h).get(finished.get(h).size() - 1 - k);
    }

    int chosen(int h, int k) {
        if (h < 0 || h > 7 || k < 0 || k >= chosen.get(h).size()) {
            return -1;
        }
        return chosen.get(h).get(k);
    }

    int host(int h, int what) {
        if (h < 0 || h > 7 || what < 0 || what > 5) {
            return -1;
        }
        int open = 0;
        for (Known k : known.get(h).values()) {
            open += Math.max(0, k.granted - k.in.size());
        }
        return switch (what) {
            case 0 -> open;
            case 1 -> due.get(h).size();
            case 2 -> cutoff(h, 1);
            case 3 -> cutoff(h, 2);
            case 4 -> packetsSent[h];
            default -> finished.get(h).size();
        };
    }

    int queue(int l, int priority) {
        return l < 8 || l > 23 || priority < 0 || priority > 3 ? -1 : queues.get(l).get(priority).size();
    }

    int packet(int l, int what) {
        if (l < 0 || l > 23 || link[l] == null || what < 0 || what > 3) {
            return -1;
        }
        Packet p = link[l];
        return new int[] {p.kind, p.message, p.count, p.priority}[what];
    }

    int total(int what) {
        int underWay = 0;
        for (Packet p : link) {
            underWay += p == null ? 0 : 1;
        }
        for (List<Deque<Packet>> ahead : queues) {
            for (Deque<Packet> q : ahead) {
                underWay += q.size();
            }
        }
        return what == 0 ? dropped : what == 1 ? lost : what == 2 ? underWay : -1;
    }
}
