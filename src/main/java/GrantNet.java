import java.util.Arrays;

/**
 * Messages between the hosts of a small data centre, paced by their receivers.
 * The words in capitals in the comments (KNOWN, GRANTED, WANTED ..) are the document's terms.
 */
public final class GrantNet {
    public static final int NONE = -1;

    private static final int HOSTS = 8;
    private static final int MOST_MESSAGES = 48;
    private static final int MOST_LENGTH = 60;
    private static final int MOST_SLOTS = 200;
    /** So many packets of a message go without a GRANT. */
    private static final int UNASKED = 4;

    private final Fabric fabric = new Fabric();
    private final Host[] hosts = new Host[HOSTS];
    private final Message[] messages = new Message[MOST_MESSAGES];
    private int begun = 0;
    private int clock = 0;

    public GrantNet() {
        for (int h = 0; h < HOSTS; h++) {
            hosts[h] = new Host();
        }
    }

    public int message(int from, int to, int length, int mode) {
        boolean endsAreGood = isHost(from) && isHost(to) && from != to;
        boolean shapeIsGood = length >= 1 && length <= MOST_LENGTH && (mode == 0 || mode == 1);
        if (!endsAreGood || !shapeIsGood || begun >= MOST_MESSAGES) {
            return NONE;
        }
        Message fresh = new Message(begun, from, to, length, mode);
        messages[begun] = fresh;
        begun++;
        hosts[from].addOutgoing(fresh);
        hosts[to].addIncoming(fresh);
        return fresh.number;
    }

    public int slot(int n) throws IllegalArgumentException {
        if (n < 1 || n > MOST_SLOTS) {
            throw new IllegalArgumentException("n is not 1 .. 200");
        }
        for (int i = 0; i < n; i++) {
            runSlot();
        }
        return clock;
    }

    public boolean lose(int link, int count) {
        if (!Fabric.isLink(link) || count < 0 || count > Fabric.MOST_TO_LOSE) {
            return false;
        }
        fabric.setToLose(link, count);
        return true;
    }

    public boolean spine(int s, boolean on) {
        if (s < 0 || s >= Fabric.SPINES) {
            return false;
        }
        fabric.setSpine(s, on);
        return true;
    }

    public int sent(int m, int what) {
        Message found = find(m);
        return found == null ? NONE : found.sending.tell(what);
    }

    public int received(int m, int what) {
        Message found = find(m);
        return found == null ? NONE : found.receiving.tell(what);
    }

    public boolean in(int m, int i) {
        Message found = find(m);
        return found != null && found.receiving.holds(i);
    }

    public int finished(int host, int k) {
        return isHost(host) ? hosts[host].latestFinished(k) : NONE;
    }

    public int chosen(int host, int k) {
        return isHost(host) ? hosts[host].choice(k) : NONE;
    }

    public int host(int h, int what) {
        return isHost(h) ? hosts[h].tell(what) : NONE;
    }

    public int queue(int link, int priority) {
        return fabric.waiting(link, priority);
    }

    public int packet(int link, int what) {
        return Packet.tell(fabric.look(link), what);
    }

    public int total(int what) {
        return fabric.tell(what);
    }

    private static boolean isHost(int h) {
        return h >= 0 && h < HOSTS;
    }

    private Message find(int m) {
        return m >= 0 && m < begun ? messages[m] : null;
    }

    private void runSlot() {
        clock++;
        arriveAll();
        fabric.fillLinks();
        for (int h = 0; h < HOSTS; h++) {
            hosts[h].workAsReceiver(clock);
            hosts[h].workAsSender(clock);
            int packet = hosts[h].nextPacket();
            if (packet != Packet.ABSENT) {
                fabric.putOn(h, packet);
            }
        }
    }

    private void arriveAll() {
        for (int link = 0; link < Fabric.LINKS; link++) {
            int packet = fabric.takeOff(link);
            if (packet == Packet.ABSENT) {
                continue;
            }
            if (Fabric.endsAtHost(link)) {
                takeIn(packet);
            } else {
                fabric.passOn(link, packet);
            }
        }
    }

    private void takeIn(int packet) {
        Message found = find(Packet.messageOf(packet));
        if (found == null) {
            return;
        }
        if (Packet.kindOf(packet) == Packet.DATA) {
            hosts[found.to].takeData(found, Packet.countOf(packet), clock);
        } else {
            found.sending.takeAnswer(Packet.kindOf(packet), Packet.countOf(packet), clock);
        }
    }

    /** A packet is one int, so that a slot makes no objects however many packets go about. */
    private static final class Packet {
        static final int ABSENT = -1;
        static final int DATA = 0;
        static final int GRANT = 1;
        static final int ASK = 2;
        static final int DONE = 3;
        /** The largest count is an ASK's, 64 * 60 + 59. */
        private static final int COUNT_BITS = 12;
        private static final int MESSAGE_BITS = 6;
        private static final int GOAL_BITS = 3;
        private static final int PRIORITY_BITS = 2;

        /** The goal is the host that the packet is for. */
        static int pack(int kind, Message m, int count, int priority, int goal) {
            int packed = kind;
            packed = (packed << PRIORITY_BITS) | priority;
            packed = (packed << GOAL_BITS) | goal;
            packed = (packed << MESSAGE_BITS) | m.number;
            return (packed << COUNT_BITS) | count;
        }

        static int countOf(int packet) {
            return packet & ((1 << COUNT_BITS) - 1);
        }

        static int messageOf(int packet) {
            return (packet >> COUNT_BITS) & ((1 << MESSAGE_BITS) - 1);
        }

        static int goalOf(int packet) {
            return (packet >> (COUNT_BITS + MESSAGE_BITS)) & ((1 << GOAL_BITS) - 1);
        }

        static int priorityOf(int packet) {
            return (packet >> (COUNT_BITS + MESSAGE_BITS + GOAL_BITS)) & ((1 << PRIORITY_BITS) - 1);
        }

        static int kindOf(int packet) {
            return packet >> (COUNT_BITS + MESSAGE_BITS + GOAL_BITS + PRIORITY_BITS);
        }

        static int tell(int packet, int what) {
            if (packet == ABSENT) {
                return NONE;
            }
            switch (what) {
                case 0:
                    return kindOf(packet);
                case 1:
                    return messageOf(packet);
                case 2:
                    return countOf(packet);
                case 3:
                    return priorityOf(packet);
                default:
                    return NONE;
            }
        }
    }

    /** A row of at most so many packets: the first put is the first taken. */
    private static final class Row {
        private final int[] places;
        private int first = 0;
        private int size = 0;

        Row(int most) {
            places = new int[most];
        }

        int size() {
            return size;
        }

        boolean put(int packet) {
            if (size >= places.length) {
                return false;
            }
            int end = first + size;
            places[end < places.length ? end : end - places.length] = packet;
            size++;
            return true;
        }

        int take() {
            if (size == 0) {
                return Packet.ABSENT;
            }
            int packet = places[first];
            first = first + 1 < places.length ? first + 1 : 0;
            size--;
            return packet;
        }
    }

    /** The links, the switches with their queues, and what they dropped or lost. */
    private static final class Fabric {
        static final int LINKS = 24;
        static final int SPINES = 2;
        static final int MOST_TO_LOSE = 100;
        private static final int LEAVES = 2;
        private static final int HOSTS_OF_LEAF = 4;
        private static final int PORTS_OF_LEAF = 6;
        private static final int FIRST_LEAF_LINK = 8;
        private static final int FIRST_SPINE_LINK = 20;
        private static final int PRIORITIES = 4;
        private static final int MOST_IN_QUEUE = 8;

        private final int[] onLink = new int[LINKS];
        private final int[] toLose = new int[LINKS];
        private final Row[] queues = new Row[(LINKS - FIRST_LEAF_LINK) * PRIORITIES];
        private final boolean[] spineIsOn = new boolean[SPINES];
        private final int[] lastSpineOfLeaf = new int[LEAVES];
        private int dropped = 0;
        private int lost = 0;

        Fabric() {
            Arrays.fill(onLink, Packet.ABSENT);
            for (int q = 0; q < queues.length; q++) {
                queues[q] = new Row(MOST_IN_QUEUE);
            }
            for (int s = 0; s < SPINES; s++) {
                spineIsOn[s] = true;
            }
            // The first choice is the other one than this: spine 0.
            Arrays.fill(lastSpineOfLeaf, 1);
        }

        static boolean isLink(int link) {
            return link >= 0 && link < LINKS;
        }

        static boolean endsAtHost(int link) {
            return isFromLeaf(link) && portOfLeaf(link) < HOSTS_OF_LEAF;
        }

        private static boolean endsAtSpine(int link) {
            return isFromLeaf(link) && portOfLeaf(link) >= HOSTS_OF_LEAF;
        }

        private static boolean isFromLeaf(int link) {
            return link >= FIRST_LEAF_LINK && link < FIRST_SPINE_LINK;
        }

        private static int portOfLeaf(int link) {
            return (link - FIRST_LEAF_LINK) % PORTS_OF_LEAF;
        }

        private static int linkFromLeaf(int leaf, int port) {
            return FIRST_LEAF_LINK + PORTS_OF_LEAF * leaf + port;
        }

        private static int linkFromSpine(int s, int leaf) {
            return FIRST_SPINE_LINK + LEAVES * s + leaf;
        }

        private static int leafOfHost(int h) {
            return h / HOSTS_OF_LEAF;
        }

        /** Of a link from a host or from a spine. */
        private static int leafAtEnd(int link) {
            return link < FIRST_LEAF_LINK ? leafOfHost(link) : (link - FIRST_SPINE_LINK) % LEAVES;
        }

        void setToLose(int link, int count) {
            toLose[link] = count;
        }

        void setSpine(int s, boolean on) {
            spineIsOn[s] = on;
        }

        int look(int link) {
            return isLink(link) ? onLink[link] : Packet.ABSENT;
        }

        int takeOff(int link) {
            int packet = onLink[link];
            onLink[link] = Packet.ABSENT;
            return packet;
        }

        void putOn(int link, int packet) {
            if (toLose[link] > 0) {
                toLose[link]--;
                lost++;
            } else {
                onLink[link] = packet;
            }
        }

        /** Through the switch at the end of a link. */
        void passOn(int link, int packet) {
            if (endsAtSpine(link)) {
                passSpine(link, packet);
            } else {
                passLeaf(link, packet);
            }
        }

        private void passLeaf(int link, int packet) {
            int leaf = leafAtEnd(link);
            int goal = Packet.goalOf(packet);
            if (leafOfHost(goal) == leaf) {
                enqueue(linkFromLeaf(leaf, goal % HOSTS_OF_LEAF), packet);
                return;
            }
            int s = chooseSpine(leaf);
            if (s == NONE) {
                dropped++;
            } else {
                enqueue(linkFromLeaf(leaf, HOSTS_OF_LEAF + s), packet);
            }
        }

        private int chooseSpine(int leaf) {
            int other = 1 - lastSpineOfLeaf[leaf];
            int choice = spineIsOn[other] ? other : 1 - other;
            if (!spineIsOn[choice]) {
                return NONE;
            }
            lastSpineOfLeaf[leaf] = choice;
            return choice;
        }

        private void passSpine(int link, int packet) {
            int s = portOfLeaf(link) - HOSTS_OF_LEAF;
            if (spineIsOn[s]) {
                enqueue(linkFromSpine(s, leafOfHost(Packet.goalOf(packet))), packet);
            } else {
                dropped++;
            }
        }

        private void enqueue(int link, int packet) {
            if (!queueOf(link, Packet.priorityOf(packet)).put(packet)) {
                dropped++;
            }
        }

        private Row queueOf(int link, int priority) {
            return queues[(link - FIRST_LEAF_LINK) * PRIORITIES + priority];
        }

        void fillLinks() {
            for (int link = FIRST_LEAF_LINK; link < LINKS; link++) {
                if (isServed(link)) {
                    fill(link);
                }
            }
        }

        private boolean isServed(int link) {
            return link < FIRST_SPINE_LINK || spineIsOn[(link - FIRST_SPINE_LINK) / LEAVES];
        }

        private void fill(int link) {
            for (int priority = 0; priority < PRIORITIES; priority++) {
                int packet = queueOf(link, priority).take();
                if (packet != Packet.ABSENT) {
                    putOn(link, packet);
                    return;
                }
            }
        }

        int waiting(int link, int priority) {
            boolean exists = isLink(link) && link >= FIRST_LEAF_LINK && priority >= 0 && priority < PRIORITIES;
            return exists ? queueOf(link, priority).size() : NONE;
        }

        int tell(int what) {
            switch (what) {
                case 0:
                    return dropped;
                case 1:
                    return lost;
                case 2:
                    return underWay();
                default:
                    return NONE;
            }
        }

        private int underWay() {
            int packets = 0;
            for (int link = 0; link < LINKS; link++) {
                packets += onLink[link] == Packet.ABSENT ? 0 : 1;
            }
            for (int q = 0; q < queues.length; q++) {
                packets += queues[q].size();
            }
            return packets;
        }
    }

    private static final class Message {
        private final int number;
        private final int from;
        private final int to;
        private final int length;
        private final Sending sending;
        private final Receiving receiving;

        Message(int number, int from, int to, int length, int mode) {
            this.number = number;
            this.from = from;
            this.to = to;
            this.length = length;
            sending = new Sending(length);
            receiving = new Receiving(length, mode == 1);
        }
    }

    /** A set of a message's packets, one bit for each: a length of 60 fits into a long. */
    private static final class Bits {
        static long with(long set, int i) {
            return set | (1L << i);
        }

        static long without(long set, int i) {
            return set & ~(1L << i);
        }

        static boolean has(long set, int i) {
            return (set & (1L << i)) != 0;
        }

        /** The least member, 64 if there is none. */
        static int least(long set) {
            return Long.bitCount((set & -set) - 1);
        }
    }

    /** What a message is for its sender. */
    private static final class Sending {
        private static final int OPEN = 0;
        private static final int DELIVERED = 1;
        private static final int FAILED = 2;
        private static final int MOST_QUIET = 40;
        private static final int MOST_TRIES = 6;
        private static final int FIRST_LEVEL = 3;

        private final int length;
        private int status = OPEN;
        private int next = 0;
        private int permitted;
        private int level = FIRST_LEVEL;
        private long wanted = 0;
        private int quiet = 0;
        private int tries = 0;
        private int endedAt = 0;

        Sending(int length) {
            this.length = length;
            permitted = Math.min(UNASKED, length);
        }

        int left() {
            return length - next + Long.bitCount(wanted);
        }

        int level() {
            return level;
        }

        boolean canSend() {
            return status == OPEN && (wanted != 0 || next < permitted);
        }

        /** Only of one that can send. */
        int takePlace() {
            if (wanted == 0) {
                next++;
                return next - 1;
            }
            int place = Bits.least(wanted);
            wanted = Bits.without(wanted, place);
            return place;
        }

        void takeAnswer(int kind, int count, int clock) {
            if (status != OPEN) {
                return;
            }
            quiet = 0;
            tries = 0;
            if (kind == Packet.GRANT) {
                permitted = Math.max(permitted, Receiving.targetOfGrant(count));
                level = Receiving.levelOfGrant(count);
            } else if (kind == Packet.ASK) {
                permitted = Math.max(permitted, Receiving.grantedOfAsk(count));
                want(Receiving.placeOfAsk(count));
            } else {
                end(DELIVERED, clock);
            }
        }

        void growQuiet(int clock) {
            if (status != OPEN) {
                return;
            }
            quiet++;
            if (quiet < MOST_QUIET) {
                return;
            }
            quiet = 0;
            tries++;
            if (tries >= MOST_TRIES) {
                end(FAILED, clock);
            } else {
                want(0);
            }
        }

        private void want(int place) {
            if (place < next) {
                wanted = Bits.with(wanted, place);
            }
        }

        private void end(int how, int clock) {
            status = how;
            endedAt = clock;
        }

        int tell(int what) {
            switch (what) {
                case 0:
                    return status;
                case 1:
                    return next;
                case 2:
                    return permitted;
                case 3:
                    return left();
                case 4:
                    return quiet;
                case 5:
                    return tries;
                case 6:
                    return level;
                case 7:
                    return endedAt;
                default:
                    return NONE;
            }
        }
    }

    /** What a message is for its receiver. */
    private static final class Receiving {
        private static final int UNKNOWN = 0;
        private static final int KNOWN = 1;
        private static final int FINISHED = 2;
        private static final int MOST_SILENCE = 16;
        private static final int MOST_ASKS = 8;
        private static final int SLOTS_KEPT = 30;
        private static final int AHEAD = 6;
        private static final int GRANT_BASE = 4;
        private static final int ASK_BASE = 64;

        private final int length;
        private final boolean isForgettable;
        private int state = UNKNOWN;
        private int executed = 0;
        private long held = 0;
        private int granted = 0;
        private int silence = 0;
        private int asks = 0;
        private int arrival = 0;
        private int finishedAt = 0;

        /** isForgettable: the mode is 1, so that it is not known any more some slots after it is finished. */
        Receiving(int length, boolean isForgettable) {
            this.length = length;
            this.isForgettable = isForgettable;
        }

        static int targetOfGrant(int count) {
            return count / GRANT_BASE;
        }

        static int levelOfGrant(int count) {
            return count % GRANT_BASE;
        }

        static int grantedOfAsk(int count) {
            return count / ASK_BASE;
        }

        static int placeOfAsk(int count) {
            return count % ASK_BASE;
        }

        boolean isUnknown() {
            return state == UNKNOWN;
        }

        boolean isKnown() {
            return state == KNOWN;
        }

        boolean isFinished() {
            return state == FINISHED;
        }

        boolean holds(int i) {
            return i >= 0 && i < length && Bits.has(held, i);
        }

        private int missing() {
            return length - Long.bitCount(held);
        }

        int grantedAndNotIn() {
            return isKnown() ? Math.max(0, granted - Long.bitCount(held)) : 0;
        }

        void begin(int arrivalNumber) {
            state = KNOWN;
            arrival = arrivalNumber;
            held = 0;
            granted = Math.min(UNASKED, length);
        }

        /** Only of one that is KNOWN. */
        void take(int place, int clock) {
            silence = 0;
            asks = 0;
            held = Bits.with(held, place);
            if (missing() == 0) {
                state = FINISHED;
                executed++;
                finishedAt = clock;
            }
        }

        /** Whether an ASK is due. */
        boolean growSilence() {
            silence++;
            if (silence < MOST_SILENCE) {
                return false;
            }
            silence = 0;
            asks++;
            if (asks >= MOST_ASKS) {
                forget();
                return false;
            }
            return true;
        }

        int countOfAsk() {
            return ASK_BASE * granted + Bits.least(~held);
        }

        void forgetIfOld(int clock) {
            if (isForgettable && isFinished() && clock - finishedAt >= SLOTS_KEPT) {
                forget();
            }
        }

        private void forget() {
            state = UNKNOWN;
            held = 0;
        }

        /** Whether it comes ahead of another one when its host chooses. */
        boolean isAheadOf(Receiving other) {
            if (missing() != other.missing()) {
                return missing() < other.missing();
            }
            return arrival < other.arrival;
        }

        /** Whether a GRANT is due. */
        boolean growGranted() {
            int target = Math.min(length - missing() + AHEAD, length);
            if (target <= granted) {
                return false;
            }
            granted = target;
            return true;
        }

        int countOfGrant(int k) {
            return GRANT_BASE * granted + 1 + k;
        }

        int tell(int what) {
            switch (what) {
                case 0:
                    return state;
                case 1:
                    return executed;
                case 2:
                    return isKnown() ? missing() : 0;
                case 3:
                    return isKnown() ? granted : 0;
                case 4:
                    return isKnown() ? silence : 0;
                case 5:
                    return isKnown() ? asks : 0;
                case 6:
                    return isKnown() ? arrival : 0;
                default:
                    return NONE;
            }
        }
    }

    /** The lengths of the latest messages that began at a host, and the cutoffs that follow from them. */
    private static final class Cutoffs {
        private static final int MOST = 16;

        private final int[] latest = new int[MOST];
        private final int[] sorted = new int[MOST];
        private int oldest = 0;
        private int size = 0;
        private int first = 0;
        private int second = 0;

        void add(int length) {
            latest[oldest] = length;
            oldest = oldest + 1 < MOST ? oldest + 1 : 0;
            size = Math.min(size + 1, MOST);
            sort();
            first = sorted[size / 3];
            second = sorted[2 * size / 3];
        }

        private void sort() {
            for (int i = 0; i < size; i++) {
                int j = i;
                while (j > 0 && sorted[j - 1] > latest[i]) {
                    sorted[j] = sorted[j - 1];
                    j--;
                }
                sorted[j] = latest[i];
            }
        }

        int first() {
            return first;
        }

        int second() {
            return second;
        }

        int priorityFor(int length) {
            if (length <= first) {
                return 1;
            }
            return length <= second ? 2 : 3;
        }
    }

    private static final class Host {
        private static final int MOST_DUE = 24;
        private static final int MOST_CHOSEN = 3;
        private static final int FINISHED_KEPT = 64;

        private final Message[] outgoing = new Message[MOST_MESSAGES];
        private final Message[] incoming = new Message[MOST_MESSAGES];
        private final Cutoffs cutoffs = new Cutoffs();
        private final Row due = new Row(MOST_DUE);
        private final int[] choices = new int[MOST_CHOSEN];
        private final int[] ended = new int[FINISHED_KEPT];
        private int outgoingCount = 0;
        private int incomingCount = 0;
        private int arrivals = 0;
        private int endedCount = 0;
        private int sentCount = 0;

        Host() {
            Arrays.fill(choices, NONE);
        }

        void addOutgoing(Message m) {
            outgoing[outgoingCount] = m;
            outgoingCount++;
            cutoffs.add(m.length);
        }

        void addIncoming(Message m) {
            incoming[incomingCount] = m;
            incomingCount++;
        }

        void takeData(Message m, int place, int clock) {
            Receiving r = m.receiving;
            if (r.isUnknown()) {
                arrivals++;
                r.begin(arrivals);
            }
            if (r.isKnown()) {
                r.take(place, clock);
                if (r.isFinished()) {
                    noteFinished(m);
                }
            }
            if (r.isFinished()) {
                putDue(Packet.DONE, m, 0);
            }
        }

        private void noteFinished(Message m) {
            ended[Math.floorMod(endedCount, FINISHED_KEPT)] = m.number;
            endedCount++;
        }

        /** What the row has no room for is never sent, as the document asks. */
        private void putDue(int kind, Message m, int count) {
            due.put(Packet.pack(kind, m, count, 0, m.from));
        }

        void workAsReceiver(int clock) {
            for (int i = 0; i < incomingCount; i++) {
                listen(incoming[i]);
            }
            for (int i = 0; i < incomingCount; i++) {
                incoming[i].receiving.forgetIfOld(clock);
            }
            choose();
        }

        private void listen(Message m) {
            if (m.receiving.isKnown() && m.receiving.growSilence()) {
                putDue(Packet.ASK, m, m.receiving.countOfAsk());
            }
        }

        private void choose() {
            Message last = null;
            for (int k = 0; k < MOST_CHOSEN; k++) {
                Message best = k > 0 && last == null ? null : bestBehind(last);
                choices[k] = best == null ? NONE : best.number;
                if (best != null && best.receiving.growGranted()) {
                    putDue(Packet.GRANT, best, best.receiving.countOfGrant(k));
                }
                last = best;
            }
        }

        private Message bestBehind(Message last) {
            Message best = null;
            for (int i = 0; i < incomingCount; i++) {
                Receiving r = incoming[i].receiving;
                boolean isCandidate = r.isKnown() && (last == null || last.receiving.isAheadOf(r));
                if (isCandidate && (best == null || r.isAheadOf(best.receiving))) {
                    best = incoming[i];
                }
            }
            return best;
        }

        void workAsSender(int clock) {
            for (int i = 0; i < outgoingCount; i++) {
                outgoing[i].sending.growQuiet(clock);
            }
        }

        /** What the host sends in this slot, if anything. */
        int nextPacket() {
            int packet = due.size() > 0 ? due.take() : nextData();
            if (packet != Packet.ABSENT) {
                sentCount++;
            }
            return packet;
        }

        private int nextData() {
            Message m = shortestToSend();
            if (m == null) {
                return Packet.ABSENT;
            }
            int place = m.sending.takePlace();
            int priority = place < UNASKED ? cutoffs.priorityFor(m.length) : m.sending.level();
            return Packet.pack(Packet.DATA, m, place, priority, m.to);
        }

        private Message shortestToSend() {
            Message best = null;
            for (int i = 0; i < outgoingCount; i++) {
                Message m = outgoing[i];
                if (m.sending.canSend() && (best == null || m.sending.left() < best.sending.left())) {
                    best = m;
                }
            }
            return best;
        }

        int latestFinished(int k) {
            boolean exists = k >= 0 && k < FINISHED_KEPT && k < endedCount;
            return exists ? ended[Math.floorMod(endedCount - 1 - k, FINISHED_KEPT)] : NONE;
        }

        int choice(int k) {
            return k >= 0 && k < MOST_CHOSEN ? choices[k] : NONE;
        }

        int tell(int what) {
            switch (what) {
                case 0:
                    return grantedAndNotIn();
                case 1:
                    return due.size();
                case 2:
                    return cutoffs.first();
                case 3:
                    return cutoffs.second();
                case 4:
                    return sentCount;
                case 5:
                    return endedCount;
                default:
                    return NONE;
            }
        }

        private int grantedAndNotIn() {
            int packets = 0;
            for (int i = 0; i < incomingCount; i++) {
                packets += incoming[i].receiving.grantedAndNotIn();
            }
            return packets;
        }
    }
}
