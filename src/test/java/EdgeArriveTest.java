/** A of a slot: what is on links arrives; leaves, spines, full queues. */
final class EdgeArriveTest {
    private static final Check CHECK = new Check("EdgeArriveTest");

    public static void main(String[] args) {
        byLinksZeroFirst();
        hostsAheadOfSpines();
        spineZeroAheadOfSpineOne();
        ownHostsAreNoChoice();
        eachLeafChoosesForItself();
        justOneIsOn();
        theOneThatIsOnIsTheLastChoice();
        noneIsOn();
        aDropForWantOfASpineIsNoChoice();
        aSpineThatIsOff();
        eightFitIntoAQueue();
        theNinthIsDropped();
        eightFitAheadOfASpine();
        theNinthAheadOfASpineIsDropped();
        anotherPriorityHasItsOwnQueue();
        theSeventhFreesAPlace();
        aFullQueueWasChosen();
        CHECK.end();
    }

    private static void onLink(GrantNet net, String when, int link, int... messages) {
        for (int i = 0; i < messages.length; i++) {
            net.slot(1);
            CHECK.due(when + ", packet " + i + " on link " + link + " is of message", net.packet(link, 1), messages[i]);
        }
    }

    /** "What is on links arrives, by links, 0 first". */
    private static void byLinksZeroFirst() {
        GrantNet net = new GrantNet();
        net.message(2, 3, 1, 0);
        net.message(1, 3, 1, 0);
        net.message(0, 3, 1, 0);
        net.slot(1);
        onLink(net, "by links", 11, 2, 1, 0, -1);
    }

    private static void hostsAheadOfSpines() {
        GrantNet net = new GrantNet();
        net.message(4, 3, 1, 0);
        net.slot(2);
        net.message(2, 3, 1, 0);
        net.slot(1);
        CHECK.due("one is on link 20", net.packet(20, 1), 0);
        CHECK.due("the other on link 2", net.packet(2, 1), 1);
        onLink(net, "hosts ahead of spines", 11, 1, 0, -1);
    }

    private static void spineZeroAheadOfSpineOne() {
        GrantNet net = new GrantNet();
        net.message(5, 3, 1, 0);
        net.message(4, 3, 1, 0);
        net.slot(3);
        CHECK.due("from spine 0", net.packet(20, 1), 1);
        CHECK.due("from spine 1", net.packet(22, 1), 0);
        onLink(net, "spine 0 ahead of spine 1", 11, 1, 0, -1);
        GrantNet turned = new GrantNet();
        turned.message(6, 0, 1, 0);
        turned.slot(1);
        turned.message(4, 3, 1, 0);
        turned.message(5, 3, 1, 0);
        turned.slot(3);
        CHECK.due("now host 5 by spine 0", turned.packet(20, 1), 2);
        CHECK.due("and host 4 by spine 1", turned.packet(22, 1), 1);
        onLink(turned, "spine 0 ahead of spine 1", 11, 2, 1, -1);
    }

    /** "to the port of the host it is for, if that is its own; else to that of a spine: the other one ..". */
    private static void ownHostsAreNoChoice() {
        GrantNet net = new GrantNet();
        net.message(0, 3, 1, 0);
        net.message(1, 4, 1, 0);
        net.slot(2);
        CHECK.due("spine 0 at first, though one went within the leaf", net.packet(12, 1), 1);
        net.message(0, 3, 1, 0);
        net.slot(1);
        net.message(1, 4, 1, 0);
        net.slot(2);
        CHECK.due("then spine 1", net.packet(13, 1), 3);
    }

    private static void eachLeafChoosesForItself() {
        GrantNet net = new GrantNet();
        net.message(0, 4, 3, 0);
        net.slot(3);
        CHECK.due("leaf 0: packet 1 by spine 1", net.packet(13, 2), 1);
        net.message(7, 1, 3, 0);
        net.slot(2);
        CHECK.due("leaf 1: packet 0 by spine 0", net.packet(18, 1), 1);
        net.slot(1);
        CHECK.due("leaf 1: packet 1 by spine 1", net.packet(19, 1), 1);
    }

    /** "but that which is on, if just one is": spine 0 alone, spine 1 alone, both. */
    private static void justOneIsOn() {
        int[][] links = {{12, 12, 12}, {13, 13, 13}, {12, 13, 12}};
        for (int run = 0; run < 3; run++) {
            GrantNet net = new GrantNet();
            net.spine(0, run != 1);
            net.spine(1, run != 0);
            net.message(0, 4, 3, 0);
            net.slot(1);
            for (int i = 0; i < 3; i++) {
                net.slot(1);
                CHECK.due("run " + run + ", packet " + i, net.packet(links[run][i], 2), i);
                CHECK.due("not by the other", net.packet(25 - links[run][i], 0), -1);
            }
            CHECK.due("none dropped", net.total(0), 0);
        }
    }

    /** "the other one than the leaf chose last": that may have been the one that alone was on. */
    private static void theOneThatIsOnIsTheLastChoice() {
        GrantNet net = new GrantNet();
        net.spine(1, false);
        net.message(0, 4, 4, 0);
        net.slot(2);
        CHECK.due("packet 0 by spine 0, which alone is on", net.packet(12, 2), 0);
        net.spine(1, true);
        net.slot(1);
        CHECK.due("packet 1 by spine 1", net.packet(13, 2), 1);
        net.spine(0, false);
        net.slot(1);
        CHECK.due("packet 2 by spine 1, which alone is on", net.packet(13, 2), 2);
        net.spine(0, true);
        net.slot(1);
        CHECK.due("packet 3 by spine 0", net.packet(12, 2), 3);
    }

    /** "if none is on it is DROPPED": off in time, or too late for packet 0. */
    private static void noneIsOn() {
        GrantNet net = new GrantNet();
        net.message(0, 4, 2, 0);
        net.slot(1);
        net.spine(0, false);
        CHECK.due("one is on", net.total(0), 0);
        net.spine(1, false);
        net.slot(1);
        CHECK.due("none is on: packet 0 is dropped", net.total(0), 1);
        CHECK.due("packet 1 is on the host's link", net.total(2), 1);
        net.spine(1, true);
        net.slot(1);
        CHECK.due("packet 1 goes by spine 1", net.packet(13, 2), 1);
        CHECK.due("none dropped more", net.total(0), 1);
    }

    private static void aDropForWantOfASpineIsNoChoice() {
        GrantNet net = new GrantNet();
        net.message(0, 4, 4, 0);
        net.slot(2);
        CHECK.due("packet 0 by spine 0", net.packet(12, 2), 0);
        net.spine(0, false);
        net.spine(1, false);
        net.slot(1);
        CHECK.due("packet 0 and packet 1 are dropped", net.total(0), 2);
        net.spine(0, true);
        net.spine(1, true);
        net.slot(1);
        CHECK.due("packet 2 by spine 1", net.packet(13, 2), 2);
    }

    /** "At a spine, if this is on, to the leaf of the host it is for, else it is DROPPED." */
    private static void aSpineThatIsOff() {
        GrantNet net = new GrantNet();
        net.message(0, 4, 3, 0);
        net.slot(2);
        CHECK.due("packet 0 is on its way to spine 0", net.packet(12, 2), 0);
        net.spine(0, false);
        net.slot(1);
        CHECK.due("dropped there", net.total(0), 1);
        CHECK.due("not on its link", net.packet(21, 0), -1);
        CHECK.due("nor ahead of it", net.queue(21, 1), 0);
        CHECK.due("packet 1 is on its way to spine 1", net.packet(13, 2), 1);
        net.slot(1);
        CHECK.due("that is on: it goes", net.packet(23, 2), 1);
        // What has left a spine goes on, though the spine is off now.
        net.spine(1, false);
        net.slot(2);
        CHECK.due("packet 1 came", net.in(0, 1), true);
        CHECK.due("packet 2 was on its way to spine 1", net.total(0), 2);
    }

    /** Hosts 0, 1, 2 send four packets each, in the slots 1 .. 4 (the third as many as it has): three come a slot. */
    private static GrantNet crowd(int first, int second, int lastLength) {
        GrantNet net = new GrantNet();
        net.spine(1, false);
        net.message(0, first, 4, 0);
        net.message(1, second, 4, 0);
        net.message(2, first, lastLength, 0);
        return net;
    }

    private static void waits(GrantNet net, int link, int... sizes) {
        for (int i = 0; i < sizes.length; i++) {
            net.slot(1);
            CHECK.due("queue of link " + link + " in slot " + (i + 1), net.queue(link, 1), sizes[i]);
        }
    }

    /** "if that has 8 it is DROPPED": with 7 it is not. In slot 5 two come to six: eight, of which one goes. */
    private static void eightFitIntoAQueue() {
        GrantNet net = crowd(3, 3, 3);
        waits(net, 11, 0, 2, 4, 6, 7, 6);
        CHECK.due("none dropped", net.total(0), 0);
        net.slot(20);
        CHECK.due("all came", net.host(3, 5), 3);
    }

    private static void theNinthIsDropped() {
        GrantNet net = crowd(3, 3, 4);
        waits(net, 11, 0, 2, 4, 6, 7, 6);
        CHECK.due("one dropped", net.total(0), 1);
        CHECK.due("none lost", net.total(1), 0);
        net.slot(8);
        CHECK.due("message 0 came", net.received(0, 0), 2);
        CHECK.due("message 1 came", net.received(1, 0), 2);
        CHECK.due("message 2 lacks one", net.received(2, 2), 1);
        CHECK.due("the last that came", net.in(2, 3), false);
    }

    private static void eightFitAheadOfASpine() {
        GrantNet net = crowd(4, 5, 3);
        waits(net, 12, 0, 2, 4, 6, 7, 6);
        CHECK.due("none dropped", net.total(0), 0);
        net.slot(30);
        CHECK.due("all came", net.host(4, 5) + net.host(5, 5), 3);
    }

    private static void theNinthAheadOfASpineIsDropped() {
        GrantNet net = crowd(4, 5, 4);
        waits(net, 12, 0, 2, 4, 6, 7, 6);
        CHECK.due("one dropped", net.total(0), 1);
        net.slot(10);
        CHECK.due("the last that came", net.in(2, 3), false);
        CHECK.due("the one ahead of it", net.in(2, 2), true);
    }

    /** "It goes behind the QUEUE of its priority": one of another priority finds room when that of priority 1 has 8. */
    private static void anotherPriorityHasItsOwnQueue() {
        GrantNet net = new GrantNet();
        // Host 4 has the lengths 1, 1, 4: the cutoffs are 1 and 4, that of length 4 has the priority 2.
        net.message(4, 5, 1, 0);
        net.message(4, 5, 1, 0);
        net.slot(20);
        for (int h : new int[] {0, 1, 2, 4}) {
            net.message(h, 3, 4, 0);
        }
        net.slot(4);
        CHECK.due("of priority 1 in slot 24", net.queue(11, 1), 6);
        CHECK.due("of priority 2 in slot 24", net.queue(11, 2), 1);
        net.slot(1);
        // By links: eight of priority 1, a ninth that is dropped, and then that of priority 2, from a spine.
        CHECK.due("of priority 1 in slot 25", net.queue(11, 1), 7);
        CHECK.due("of priority 2 in slot 25", net.queue(11, 2), 2);
        CHECK.due("dropped", net.total(0), 1);
        net.slot(30);
        CHECK.due("that of priority 2 came whole", net.received(5, 0), 2);
    }

    /** As soon as one has gone the next one fits again: places of a queue are used again and again. */
    private static void theSeventhFreesAPlace() {
        GrantNet net = new GrantNet();
        for (int m = 0; m < 6; m++) {
            net.message(m % 2, 3, 4, 0);
        }
        // Two come and one goes in each slot from 2 on: seven wait in slot 8, then each slot drops one.
        waits(net, 11, 0, 1, 2, 3, 4, 5, 6, 7, 7, 7, 7, 7, 7, 6, 5);
        CHECK.due("in the slots 9 .. 13 one each was dropped", net.total(0), 5);
    }

    /**
     * A packet that is dropped as the queue of its spine is full has been a choice of its leaf. Three come to leaf 0 in
     * each of the slots 2 .. 16, for the spines by turns: in slot 16 the third is for spine 0, whose queue has 8.
     */
    private static void aFullQueueWasChosen() {
        GrantNet net = new GrantNet();
        for (int h = 0; h < 3; h++) {
            for (int i = 0; i < 3; i++) {
                net.message(h, 4 + h, 4, 0);
            }
            net.message(h, 4 + h, h == 0 ? 4 : 3, 0);
        }
        net.slot(15);
        CHECK.due("queue for spine 0 in slot 15", net.queue(12, 1), 7);
        CHECK.due("queue for spine 1 in slot 15", net.queue(13, 1), 7);
        CHECK.due("none dropped", net.total(0), 0);
        net.slot(1);
        CHECK.due("one dropped in slot 16", net.total(0), 1);
        CHECK.due("queue for spine 0 in slot 16", net.queue(12, 1), 7);
        CHECK.due("queue for spine 1 in slot 16", net.queue(13, 1), 7);
        // In slot 17 one more comes, from host 0.
        net.slot(1);
        CHECK.due("it is for spine 1", net.queue(13, 1), 7);
        CHECK.due("not for spine 0", net.queue(12, 1), 6);
        CHECK.due("none dropped more", net.total(0), 1);
    }
}
