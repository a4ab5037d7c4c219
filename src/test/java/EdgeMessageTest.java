/** The document's Terms: numbers, LENGTHS and MODES of messages, how many can begin, and what they are for a sender. */
final class EdgeMessageTest {
    private static final Check CHECK = new Check("EdgeMessageTest");

    public static void main(String[] args) {
        numbersAsTheyBegin();
        lengthsOneToSixty();
        modesZeroAndOne();
        senderIsNotReceiver();
        fortyEightFromOneHostToOne();
        theFortyNinthChangesNothing();
        openDeliveredFailed();
        answersHaveThePriorityZero();
        CHECK.end();
    }

    /** "a number (0, 1, .. as they begin)": what is refused takes no number. */
    private static void numbersAsTheyBegin() {
        GrantNet net = new GrantNet();
        CHECK.due("the first", net.message(3, 4, 1, 0), 0);
        CHECK.due("a wrong one", net.message(3, 3, 1, 0), -1);
        CHECK.due("there is no message 1", net.sent(1, 0), -1);
        CHECK.due("the second", net.message(7, 0, 1, 1), 1);
        net.slot(1);
        CHECK.due("a wrong one", net.message(3, 4, 61, 0), -1);
        CHECK.due("the third", net.message(3, 4, 1, 0), 2);
    }

    /** "a LENGTH of 1 .. 60 packets (0 .. LENGTH - 1)". */
    private static void lengthsOneToSixty() {
        GrantNet net = new GrantNet();
        for (int length : new int[] {0, 61, -1, 64, Integer.MIN_VALUE, Integer.MAX_VALUE}) {
            CHECK.due("a length of " + length, net.message(0, 1, length, 0), -1);
        }
        CHECK.due("a length of 1", net.message(0, 1, 1, 0), 0);
        CHECK.due("a length of 60", net.message(2, 3, 60, 0), 1);
        net.slot(61);
        CHECK.due("that of 1 is delivered", net.sent(0, 7), 5);
        CHECK.due("that of 60 lacks its last packet", net.received(1, 2), 1);
        CHECK.due("packet 58 is in", net.in(1, 58), true);
        CHECK.due("packet 59 is not", net.in(1, 59), false);
        net.slot(1);
        CHECK.due("packet 59 came", net.in(1, 59), true);
        CHECK.due("there is no packet 60", net.in(1, 60), false);
        CHECK.due("there is no packet 1 of a length of 1", net.in(0, 1), false);
        net.slot(2);
        CHECK.due("that of 60 is delivered", net.sent(1, 7), 64);
        CHECK.due("60 packets", net.host(2, 4), 60);
    }

    /** "a MODE: 0 or 1": 1 is not known any more after 30 slots, 0 stays. */
    private static void modesZeroAndOne() {
        GrantNet net = new GrantNet();
        for (int mode : new int[] {-1, 2, Integer.MIN_VALUE, Integer.MAX_VALUE}) {
            CHECK.due("a mode of " + mode, net.message(0, 1, 1, mode), -1);
        }
        CHECK.due("mode 0", net.message(0, 1, 1, 0), 0);
        CHECK.due("mode 1", net.message(2, 3, 1, 1), 1);
        net.slot(100);
        CHECK.due("mode 0 stays", net.received(0, 0), 2);
        CHECK.due("mode 1 does not", net.received(1, 0), 0);
    }

    /** "sender and receiver are one": NONE, for each host; next to it a message can go. */
    private static void senderIsNotReceiver() {
        GrantNet net = new GrantNet();
        for (int h = 0; h < 8; h++) {
            CHECK.due("from " + h + " to itself", net.message(h, h, 1, 0), -1);
            CHECK.due("from " + h + " to another", net.message(h, (h + 1) % 8, 1, 0), h);
        }
    }

    /** "At most 48 messages can begin": all of them between the same two hosts. */
    private static void fortyEightFromOneHostToOne() {
        GrantNet net = new GrantNet();
        for (int m = 0; m < 48; m++) {
            CHECK.due("message " + m, net.message(5, 2, 1, 0), m);
        }
        CHECK.due("the 49th", net.message(5, 2, 1, 0), -1);
        net.slot(100);
        CHECK.due("all are finished", net.host(2, 5), 48);
        CHECK.due("sent: 48 and the tries of slot 40", net.host(5, 4), 48 + triesWithin(40, 48));
        for (int m = 0; m < 48; m++) {
            CHECK.due("message " + m + " is delivered", net.sent(m, 0), 1);
        }
        CHECK.due("the 49th later on", net.message(5, 2, 1, 0), -1);
        CHECK.due("there is no message 48", net.sent(48, 0), -1);
        CHECK.due("nor at a receiver", net.received(48, 0), -1);
    }

    /**
     * A packet that goes in slot i is answered in slot i + 8: those that went in slots 33 and later wait still in
     * slot 40, and packet 0 of those that went before slot 40 is WANTED; no other has a packet below NEXT.
     */
    private static int triesWithin(int quiet, int messages) {
        int tries = 0;
        for (int i = 1; i <= messages; i++) {
            boolean waits = i + 8 > quiet;
            tries += waits && i < quiet ? 1 : 0;
        }
        return tries;
    }

    private static void theFortyNinthChangesNothing() {
        GrantNet net = new GrantNet();
        for (int m = 0; m < 48; m++) {
            net.message(m % 4, 4 + m % 4, 7, 0);
        }
        CHECK.due("the 49th", net.message(0, 1, 60, 0), -1);
        CHECK.due("its length is in no cutoff", net.host(0, 2), 7);
        CHECK.due("nor in the second", net.host(0, 3), 7);
        CHECK.due("a 49th of a host that has none", net.message(7, 1, 60, 0), -1);
        CHECK.due("no cutoff there", net.host(7, 2), 0);
    }

    /** "For its sender it is OPEN (0), DELIVERED (1) or FAILED (2)". */
    private static void openDeliveredFailed() {
        GrantNet net = new GrantNet();
        net.message(0, 1, 1, 0);
        net.message(2, 3, 1, 0);
        net.lose(2, 100);
        CHECK.due("OPEN", net.sent(0, 0), 0);
        net.slot(4);
        CHECK.due("OPEN ahead of its DONE", net.sent(0, 0), 0);
        CHECK.due("no slot as yet", net.sent(0, 7), 0);
        net.slot(1);
        CHECK.due("DELIVERED", net.sent(0, 0), 1);
        CHECK.due("in slot", net.sent(0, 7), 5);
        net.slot(200);
        net.slot(34);
        CHECK.due("OPEN in slot 239", net.sent(1, 0), 0);
        CHECK.due("no slot as yet", net.sent(1, 7), 0);
        net.slot(1);
        CHECK.due("FAILED in slot 240", net.sent(1, 0), 2);
        CHECK.due("in slot", net.sent(1, 7), 240);
    }

    /** "GRANT, ASK, DONE (with the priority 0): from the receiver to the sender." */
    private static void answersHaveThePriorityZero() {
        GrantNet net = new GrantNet();
        net.message(0, 1, 5, 0);
        net.slot(3);
        answer(net, "GRANT", 1);
        net.lose(0, 2);
        // Packets 3 and 4 are lost, packet 2 comes in slot 5: an ASK in slot 20, for packet 3; one later for packet 4.
        net.slot(17);
        answer(net, "ASK", 2);
        net.slot(4);
        CHECK.due("packet 3 came", net.in(0, 3), true);
        net.slot(15);
        answer(net, "ASK", 2);
        net.slot(4);
        answer(net, "DONE", 3);
    }

    private static void answer(GrantNet net, String name, int kind) {
        CHECK.due(name + ", kind", net.packet(1, 0), kind);
        CHECK.due(name + ", message", net.packet(1, 1), 0);
        CHECK.due(name + ", priority", net.packet(1, 3), 0);
    }
}
