/** B of a slot: links get packets from their queues; and what is LOST. */
final class EdgeFillTest {
    private static final Check CHECK = new Check("EdgeFillTest");

    public static void main(String[] args) {
        theFirstQueueThatHasAny();
        theFirstOfAQueue();
        answersWaitToo();
        linksFromAndToASpineThatIsOff();
        noneToLose();
        oneToLose();
        aHundredToLose();
        insteadOfWhatWasToldBefore();
        everyLinkCanLose();
        refusedCountsChangeNothing();
        CHECK.end();
    }

    /** "gets the first packet of the first QUEUE ahead of it that has any": all four have one. */
    private static void theFirstQueueThatHasAny() {
        GrantNet net = new GrantNet();
        // The cutoffs, with a message of length 2: of host 0 (1, 1, 1, 2) 1 and 1, of host 1 (1, 1, 2) 1 and 2.
        for (int i = 0; i < 3; i++) {
            net.message(0, 1, 1, 0);
        }
        net.message(1, 0, 1, 0);
        net.message(1, 0, 1, 0);
        net.slot(20);
        net.message(3, 4, 1, 0);
        net.slot(6);
        net.message(0, 3, 2, 0);
        net.message(1, 3, 2, 0);
        net.message(2, 3, 2, 0);
        net.slot(1);
        CHECK.due("of priority 3", net.packet(0, 3), 3);
        CHECK.due("of priority 2", net.packet(1, 3), 2);
        CHECK.due("of priority 1", net.packet(2, 3), 1);
        CHECK.due("of priority 0", net.packet(20, 3), 0);
        for (int h = 0; h < 3; h++) {
            net.lose(h, 100);
        }
        int[][] waiting = {{0, 1, 1, 1}, {0, 0, 1, 1}, {0, 0, 0, 1}, {0, 0, 0, 0}};
        for (int priority = 0; priority < 4; priority++) {
            net.slot(1);
            CHECK.due("the priority that goes", net.packet(11, 3), priority);
            CHECK.row("those that wait with", p -> net.queue(11, p), waiting[priority]);
        }
        net.slot(1);
        CHECK.due("nothing more", net.packet(11, 0), -1);
    }

    private static void theFirstOfAQueue() {
        GrantNet net = new GrantNet();
        net.message(0, 3, 4, 0);
        net.message(1, 3, 4, 0);
        net.slot(1);
        int[] messages = {0, 1, 0, 1, 0, 1, 0, 1};
        int[] counts = {0, 0, 1, 1, 2, 2, 3, 3};
        for (int i = 0; i < messages.length; i++) {
            net.slot(1);
            CHECK.due("message that goes", net.packet(11, 1), messages[i]);
            CHECK.due("packet that goes", net.packet(11, 2), counts[i]);
        }
    }

    /** Two DONEs for host 0 come to its leaf in slot 8, one from a spine: one waits in the very first of all queues. */
    private static void answersWaitToo() {
        GrantNet net = new GrantNet();
        net.message(0, 4, 1, 0);
        net.slot(4);
        net.message(0, 1, 1, 0);
        net.slot(3);
        CHECK.due("on the links 1 and 20", net.packet(1, 0) == 3 && net.packet(20, 0) == 3, true);
        net.slot(1);
        CHECK.due("that from the host goes first", net.packet(8, 1), 1);
        CHECK.due("that from the spine waits", net.queue(8, 0), 1);
        CHECK.due("both are under way", net.total(2), 2);
        net.slot(1);
        CHECK.due("it goes", net.packet(8, 1), 0);
        CHECK.due("none waits", net.queue(8, 0), 0);
        CHECK.due("one is under way", net.total(2), 1);
    }

    /** "(but those from a spine that is off)": those to it get packets, which are dropped there. */
    private static void linksFromAndToASpineThatIsOff() {
        GrantNet net = new GrantNet();
        net.spine(1, false);
        for (int h = 0; h < 3; h++) {
            net.message(h, 4, 4, 0);
        }
        net.slot(3);
        CHECK.due("four wait for link 12", net.queue(12, 1), 4);
        CHECK.due("one is on link 21", net.packet(21, 0), 0);
        net.spine(0, false);
        net.slot(1);
        CHECK.due("three wait for link 12", net.queue(12, 1), 3);
        CHECK.due("one is on link 12", net.packet(12, 0), 0);
        CHECK.due("three are dropped at the leaf, one at the spine", net.total(0), 4);
        CHECK.due("none is on link 21", net.packet(21, 0), -1);
        net.slot(1);
        CHECK.due("two wait for link 12", net.queue(12, 1), 2);
        CHECK.due("three and one more are dropped", net.total(0), 8);
        net.spine(0, true);
        net.slot(1);
        CHECK.due("one waits for link 12", net.queue(12, 1), 1);
        CHECK.due("one is on link 21 again", net.packet(21, 0), 0);
        CHECK.due("none is dropped more", net.total(0), 8);
    }

    private static GrantNet fourFromHostZero() {
        GrantNet net = new GrantNet();
        net.message(0, 1, 4, 0);
        return net;
    }

    /** "The next count (0 .. 100) packets that come to a link are LOST": none for 0. */
    private static void noneToLose() {
        GrantNet net = fourFromHostZero();
        CHECK.due("lose(0, 0)", net.lose(0, 0), true);
        net.slot(4);
        CHECK.due("none lost", net.total(1), 0);
        net.slot(4);
        CHECK.due("all came", net.received(0, 0), 2);
    }

    private static void oneToLose() {
        GrantNet net = fourFromHostZero();
        CHECK.due("lose(0, 1)", net.lose(0, 1), true);
        net.slot(1);
        CHECK.due("lost", net.total(1), 1);
        CHECK.due("it is nowhere", net.total(2), 0);
        net.slot(1);
        CHECK.due("the next one is on the link", net.packet(0, 2), 1);
        net.slot(2);
        CHECK.due("one lost", net.total(1), 1);
    }

    /** Host 0 has a packet for each of the first 104 slots: a hundred are lost, the next one is not. */
    private static void aHundredToLose() {
        GrantNet net = new GrantNet();
        for (int m = 0; m < 26; m++) {
            net.message(0, 1, 4, 0);
        }
        CHECK.due("lose(0, 101)", net.lose(0, 101), false);
        CHECK.due("lose(0, 100)", net.lose(0, 100), true);
        net.slot(99);
        CHECK.due("lost in slot 99", net.total(1), 99);
        net.slot(1);
        CHECK.due("lost in slot 100", net.total(1), 100);
        CHECK.due("the link is empty", net.packet(0, 0), -1);
        net.slot(1);
        CHECK.due("lost in slot 101", net.total(1), 100);
        CHECK.due("one is on the link", net.packet(0, 0), 0);
        CHECK.due("sent by the host", net.host(0, 4), 101);
    }

    /** "(instead of how many were told before)": fewer, more, none. */
    private static void insteadOfWhatWasToldBefore() {
        int[][] told = {{3, 1}, {1, 3}, {2, 0}, {0, 2}, {100, 1}};
        for (int[] t : told) {
            GrantNet net = fourFromHostZero();
            net.lose(0, t[0]);
            net.lose(0, t[1]);
            net.slot(4);
            CHECK.due("told " + t[0] + ", then " + t[1], net.total(1), t[1]);
        }
        GrantNet net = fourFromHostZero();
        net.lose(0, 3);
        net.slot(1);
        net.lose(0, 1);
        net.slot(3);
        CHECK.due("of three one was lost, then one was told", net.total(1), 2);
        CHECK.due("packet 3 is on the link", net.packet(0, 2), 3);
    }

    /** "A packet that comes to a link which is to lose some is LOST instead": each link on a way across. */
    private static void everyLinkCanLose() {
        for (int from = 0; from < 8; from++) {
            int to = (from + 4) % 8;
            for (int spine = 0; spine < 2; spine++) {
                int a = from / 4;
                int b = to / 4;
                int[] way = {from, 12 + 6 * a + spine, 20 + 2 * spine + b, 8 + 6 * b + to % 4};
                for (int i = 0; i < way.length; i++) {
                    GrantNet net = new GrantNet();
                    net.spine(1 - spine, false);
                    net.message(from, to, 2, 0);
                    net.lose(way[i], 1);
                    net.slot(i + 1);
                    CHECK.due("lost on link " + way[i], net.total(1), 1);
                    CHECK.due("the link is empty", net.packet(way[i], 0), -1);
                    net.slot(1);
                    CHECK.due("packet 1 is on link " + way[i], net.packet(way[i], 2), 1);
                    CHECK.due("none dropped", net.total(0), 0);
                }
            }
        }
    }

    private static void refusedCountsChangeNothing() {
        GrantNet net = fourFromHostZero();
        net.lose(0, 2);
        for (int count : new int[] {-1, 101, Integer.MIN_VALUE, Integer.MAX_VALUE}) {
            CHECK.due("lose(0, " + count + ")", net.lose(0, count), false);
        }
        net.slot(4);
        CHECK.due("two are lost as told", net.total(1), 2);
    }
}
