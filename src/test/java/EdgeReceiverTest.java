/** The receiver, as DATA comes in: not known, KNOWN, FINISHED. */
final class EdgeReceiverTest {
    private static final Check CHECK = new Check("EdgeReceiverTest");

    public static void main(String[] args) {
        notKnownAtFirst();
        arrivalsOfEachHost();
        fourOrTheLengthAreGranted();
        dataEndsTheSilence();
        aPacketIsInAgain();
        allAreIn();
        aLengthOfOneIsFinishedAtOnce();
        dataOfAFinishedOne();
        grantedLessThoseInIsNeverBelowZero();
        CHECK.end();
    }

    private static void received(GrantNet net, int m, String when, int... wants) {
        CHECK.row("received " + m + " " + when + ", what", what -> net.received(m, what), wants);
    }

    /** "THE RECEIVER of a message does not know it at first." */
    private static void notKnownAtFirst() {
        GrantNet net = new GrantNet();
        net.message(0, 1, 2, 0);
        received(net, 0, "at first", 0, 0, 0, 0, 0, 0, 0);
        net.slot(2);
        received(net, 0, "ahead of its first DATA", 0, 0, 0, 0, 0, 0, 0);
        CHECK.due("packet 0 is not in", net.in(0, 0), false);
        net.slot(1);
        received(net, 0, "with its first DATA", 1, 0, 1, 2, 1, 0, 1);
        CHECK.due("packet 0 is in", net.in(0, 0), true);
        CHECK.due("packet 1 is not", net.in(0, 1), false);
    }

    /** "with the next number of ARRIVAL of this host (1, 2, ..)". */
    private static void arrivalsOfEachHost() {
        GrantNet net = new GrantNet();
        net.message(2, 3, 9, 0);
        net.message(1, 3, 9, 0);
        net.message(0, 1, 9, 0);
        net.slot(4);
        CHECK.due("host 3: message 1 is the first", net.received(1, 6), 1);
        CHECK.due("host 3: message 0 is the second", net.received(0, 6), 2);
        CHECK.due("host 1 has its own numbers", net.received(2, 6), 1);
        net.slot(60);
        net.message(2, 3, 9, 0);
        net.slot(3);
        CHECK.due("finished ones have counted", net.received(3, 6), 3);
    }

    /** Three messages of two packets to host 3, of each of which one is in, so that a longer one is not CHOSEN. */
    private static GrantNet threeShortOnes() {
        GrantNet net = new GrantNet();
        for (int h = 0; h < 3; h++) {
            net.message(h, 3, 2, 0);
        }
        net.slot(1);
        for (int h = 0; h < 3; h++) {
            net.lose(h, 100);
        }
        net.slot(5);
        return net;
    }

    /** "GRANTED the lesser of 4 and LENGTH". */
    private static void fourOrTheLengthAreGranted() {
        int[][] grantedOfLength = {{3, 3}, {4, 4}, {5, 4}, {6, 4}, {60, 4}};
        for (int[] g : grantedOfLength) {
            GrantNet net = threeShortOnes();
            net.message(4, 3, g[0], 0);
            net.slot(1);
            net.lose(4, 100);
            net.slot(4);
            received(net, 3, "of length " + g[0], 1, 0, g[0] - 1, g[1], 1, 0, 4);
            CHECK.due("no GRANT went for it", net.host(3, 4), 0);
        }
    }

    /** "DATA of one that is KNOWN: SILENCE and ASKS are 0". */
    private static void dataEndsTheSilence() {
        GrantNet net = new GrantNet();
        net.message(0, 1, 4, 0);
        net.slot(1);
        net.lose(0, 3);
        net.slot(2);
        received(net, 0, "in slot 3", 1, 0, 3, 4, 1, 0, 1);
        net.slot(15);
        received(net, 0, "in slot 18, with an ASK", 1, 0, 3, 4, 0, 1, 1);
        net.slot(3);
        received(net, 0, "in slot 21", 1, 0, 3, 4, 3, 1, 1);
        net.slot(1);
        received(net, 0, "in slot 22, with the packet asked for", 1, 0, 2, 4, 1, 0, 1);
    }

    /** "the packet is in (perhaps again)": it is counted once. */
    private static void aPacketIsInAgain() {
        GrantNet net = new GrantNet();
        net.message(0, 1, 2, 0);
        net.lose(1, 100);
        net.slot(1);
        net.lose(0, 1);
        net.slot(40);
        received(net, 0, "in slot 41", 1, 0, 1, 2, 7, 2, 1);
        net.slot(1);
        // Packet 0 goes again in slot 40, as its sender heard nothing.
        received(net, 0, "in slot 42", 1, 0, 1, 2, 1, 0, 1);
        CHECK.due("packet 0 is in", net.in(0, 0), true);
        CHECK.due("packet 1 is not", net.in(0, 1), false);
        CHECK.due("granted and not in", net.host(1, 0), 1);
    }

    /** "if all are in: it is FINISHED: EXECUTED grows by 1, the host's list .. gets it, and a DONE is due." */
    private static void allAreIn() {
        GrantNet net = new GrantNet();
        net.message(0, 1, 4, 0);
        net.slot(5);
        received(net, 0, "with three of four", 1, 0, 1, 4, 1, 0, 1);
        CHECK.due("not in the list", net.host(1, 5), 0);
        CHECK.due("no DONE", net.host(1, 4), 0);
        net.slot(1);
        received(net, 0, "with all four", 2, 1, 0, 0, 0, 0, 0);
        CHECK.due("in the list", net.host(1, 5), 1);
        CHECK.due("as its latest", net.finished(1, 0), 0);
        CHECK.due("the DONE goes at once", net.packet(1, 0), 3);
        CHECK.due("one DONE alone", net.host(1, 1), 0);
        net.slot(20);
        CHECK.due("none later", net.host(1, 4), 1);
    }

    private static void aLengthOfOneIsFinishedAtOnce() {
        GrantNet net = new GrantNet();
        net.message(0, 1, 1, 0);
        net.slot(2);
        received(net, 0, "in slot 2", 0, 0, 0, 0, 0, 0, 0);
        net.slot(1);
        received(net, 0, "in slot 3", 2, 1, 0, 0, 0, 0, 0);
        CHECK.due("it is in", net.in(0, 0), true);
        CHECK.due("it was never chosen", net.chosen(1, 0), -1);
    }

    /** "DATA of one that is FINISHED: a DONE is due": and nothing else changes. */
    private static void dataOfAFinishedOne() {
        GrantNet net = new GrantNet();
        net.message(0, 1, 2, 0);
        net.lose(1, 1);
        net.slot(41);
        CHECK.due("one DONE went so far, and was lost", net.host(1, 4), 1);
        net.slot(1);
        CHECK.due("another DONE", net.packet(1, 0), 3);
        CHECK.due("it is the second packet sent", net.host(1, 4), 2);
        received(net, 0, "in slot 42", 2, 1, 0, 0, 0, 0, 0);
        CHECK.due("the list has it once", net.host(1, 5), 1);
        CHECK.due("both are in", net.in(0, 0) && net.in(0, 1), true);
        net.slot(2);
        CHECK.due("delivered", net.sent(0, 7), 44);
    }

    /**
     * "GRANTED less those in, at least 0 each": a message of mode 1 is executed, forgotten and known again while three
     * shorter ones are CHOSEN; its sender, who is permitted all of it, sends again what the ASKS tell, beyond GRANTED.
     */
    private static void grantedLessThoseInIsNeverBelowZero() {
        GrantNet net = new GrantNet();
        net.message(0, 1, 12, 1);
        net.slot(13);
        net.lose(1, 1);
        net.slot(1);
        received(net, 0, "in slot 14", 2, 1, 0, 0, 0, 0, 0);
        // Packet 0 of three short ones comes in the slots 48, 49, 50; of each one packet is granted and not in.
        net.slot(29);
        beginAndLoseTheRest(net, 4);
        net.slot(2);
        beginAndLoseTheRest(net, 2);
        beginAndLoseTheRest(net, 3);
        CHECK.due("the sender tried in slot 49", net.slot(3), 51);
        received(net, 0, "in slot 51", 1, 1, 11, 4, 1, 0, 5);
        int[] slots = {0, 19, 19, 19, 19, 19};
        int[] open = {3, 2, 1, 0, 0, 0};
        for (int i = 0; i < slots.length; i++) {
            if (slots[i] > 0) {
                net.slot(slots[i]);
            }
            CHECK.due("packets in, ASK " + i, 12 - net.received(0, 2), i + 1);
            CHECK.due("granted, ASK " + i, net.received(0, 3), 4);
            CHECK.due("granted and not in, ASK " + i, net.host(1, 0), 3 + open[i]);
        }
    }

    private static void beginAndLoseTheRest(GrantNet net, int from) {
        net.message(from, 1, 2, 0);
        net.slot(1);
        net.lose(from, 100);
    }
}
