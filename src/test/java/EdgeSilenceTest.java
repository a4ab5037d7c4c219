/** C1 of a slot: SILENCE at 16, ASKS at 8, and 30 slots after a message of MODE 1 was finished. */
final class EdgeSilenceTest {
    private static final Check CHECK = new Check("EdgeSilenceTest");

    public static void main(String[] args) {
        fifteenAndSixteen();
        dataInTheSixteenthSlot();
        dataAfterTheSixteenthSlot();
        sevenAndEightAsks();
        dataAfterTheSeventhAsk();
        anAskForPacketZero();
        anAskForTheLastPacket();
        anAskForTheLeastPacket();
        eachMessageHasItsOwnSilence();
        twentyNineAndThirtySlots();
        dataInTheThirtiethSlot();
        dataAfterTheThirtiethSlot();
        modeZeroStaysKnown();
        CHECK.end();
    }

    private static void received(GrantNet net, int m, String when, int... wants) {
        CHECK.row("received " + m + " " + when + ", what", what -> net.received(m, what), wants);
    }

    /** Packet 0 of a message of two packets comes in slot 3, packet 1 is lost, and so are lostLater after it. */
    private static GrantNet halfCame(int lostLater) {
        GrantNet net = new GrantNet();
        net.message(0, 1, 2, 0);
        net.slot(1);
        net.lose(0, 1 + lostLater);
        net.slot(2);
        return net;
    }

    /** "SILENCE grows by 1; if it is 16: SILENCE is 0, ASKS grows by 1; .. an ASK is due". */
    private static void fifteenAndSixteen() {
        GrantNet net = halfCame(99);
        net.slot(14);
        received(net, 0, "in slot 17", 1, 0, 1, 2, 15, 0, 1);
        CHECK.due("no ASK", net.host(1, 4), 0);
        net.slot(1);
        received(net, 0, "in slot 18", 1, 0, 1, 2, 0, 1, 1);
        CHECK.due("an ASK", net.packet(1, 0), 2);
        net.slot(15);
        received(net, 0, "in slot 33", 1, 0, 1, 2, 15, 1, 1);
        CHECK.due("one ASK so far", net.host(1, 4), 1);
        net.slot(1);
        received(net, 0, "in slot 34", 1, 0, 1, 2, 0, 2, 1);
        CHECK.due("two ASKs", net.host(1, 4), 2);
    }

    /** Messages to host 2 that go first, so many packets of them; then one of two packets, the second of which is lost. */
    private static GrantNet afterFillers(int packets, int mode) {
        GrantNet net = new GrantNet();
        for (int i = 0; i < packets / 2; i++) {
            net.message(0, 2, 2, 0);
        }
        if (packets % 2 == 1) {
            net.message(0, 2, 1, 0);
        }
        net.message(0, 1, 2, mode);
        net.lose(1, 100);
        net.slot(packets + 1);
        net.lose(0, 1);
        net.slot(1);
        return net;
    }

    /** Packet 0 comes in slot 11, an ASK is due in slot 26; packet 0 comes again in slot 42, that of the second ASK. */
    private static void dataInTheSixteenthSlot() {
        GrantNet net = afterFillers(8, 0);
        net.slot(31);
        received(net, 4, "in slot 41", 1, 0, 1, 2, 15, 1, 1);
        net.slot(1);
        received(net, 4, "in slot 42", 1, 0, 1, 2, 1, 0, 1);
        CHECK.due("no second ASK", net.host(1, 4), 1);
    }

    /** All is one slot earlier, but packet 0 comes again in slot 42 as before. */
    private static void dataAfterTheSixteenthSlot() {
        GrantNet net = afterFillers(7, 0);
        net.slot(32);
        received(net, 4, "in slot 41", 1, 0, 1, 2, 0, 2, 1);
        CHECK.due("a second ASK", net.host(1, 4), 2);
        net.slot(1);
        received(net, 4, "in slot 42", 1, 0, 1, 2, 1, 0, 1);
    }

    /** "if ASKS is 8, it is not known any more (with all that was in), else an ASK is due". */
    private static void sevenAndEightAsks() {
        GrantNet net = halfCame(99);
        net.slot(110);
        received(net, 0, "in slot 113", 1, 0, 1, 2, 15, 6, 1);
        net.slot(1);
        received(net, 0, "in slot 114", 1, 0, 1, 2, 0, 7, 1);
        CHECK.due("the seventh ASK", net.packet(1, 0), 2);
        net.slot(15);
        received(net, 0, "in slot 129", 1, 0, 1, 2, 15, 7, 1);
        CHECK.due("packet 0 is in", net.in(0, 0), true);
        CHECK.due("it is chosen", net.chosen(1, 0), 0);
        CHECK.due("one is granted and not in", net.host(1, 0), 1);
        net.slot(1);
        received(net, 0, "in slot 130", 0, 0, 0, 0, 0, 0, 0);
        CHECK.due("packet 0 is in no more", net.in(0, 0), false);
        CHECK.due("it is not chosen", net.chosen(1, 0), -1);
        CHECK.due("none is granted and not in", net.host(1, 0), 0);
        CHECK.due("there is no eighth ASK", net.packet(1, 0), -1);
        net.slot(20);
        CHECK.due("nor later on", net.host(1, 4), 7);
    }

    /** The tries of the slots 40 and 80 are lost, that of slot 120 comes in slot 122: eight ASKs more can be due. */
    private static void dataAfterTheSeventhAsk() {
        GrantNet net = halfCame(2);
        net.lose(1, 100);
        net.slot(118);
        received(net, 0, "in slot 121", 1, 0, 1, 2, 7, 7, 1);
        net.slot(1);
        received(net, 0, "in slot 122", 1, 0, 1, 2, 1, 0, 1);
        net.slot(8);
        received(net, 0, "in slot 130", 1, 0, 1, 2, 9, 0, 1);
        net.slot(7);
        received(net, 0, "in slot 137", 1, 0, 1, 2, 0, 1, 1);
    }

    /** "with the count 64 * GRANTED and the least packet that is not in". */
    private static void anAskForPacketZero() {
        GrantNet net = new GrantNet();
        net.message(0, 1, 3, 0);
        net.lose(0, 1);
        net.slot(20);
        CHECK.due("an ASK in slot 20", net.packet(1, 0), 2);
        CHECK.due("its count", net.packet(1, 2), 64 * 3);
        net.slot(2);
        CHECK.due("packet 0 goes again", net.packet(0, 2), 0);
        net.slot(2);
        CHECK.due("finished", net.received(0, 0), 2);
    }

    private static void anAskForTheLastPacket() {
        GrantNet net = new GrantNet();
        net.message(0, 1, 60, 0);
        net.slot(59);
        net.lose(0, 1);
        net.slot(16);
        CHECK.due("no ASK in slot 75", net.packet(1, 0), -1);
        net.slot(1);
        CHECK.due("an ASK in slot 76", net.packet(1, 0), 2);
        CHECK.due("its count", net.packet(1, 2), 64 * 60 + 59);
        net.slot(1);
        CHECK.due("its count on the next link", net.packet(8, 2), 64 * 60 + 59);
        net.slot(1);
        CHECK.due("packet 59 goes again", net.packet(0, 2), 59);
        net.slot(2);
        CHECK.due("finished", net.received(0, 0), 2);
    }

    private static void anAskForTheLeastPacket() {
        GrantNet net = new GrantNet();
        net.message(0, 1, 4, 0);
        net.slot(1);
        net.lose(0, 1);
        net.slot(2);
        net.lose(0, 1);
        net.slot(1);
        // Packets 0 and 2 come in the slots 3 and 5.
        net.slot(16);
        CHECK.due("an ASK for packet 1", net.packet(1, 2), 64 * 4 + 1);
        net.slot(4);
        CHECK.due("packet 1 came", net.in(0, 1), true);
        net.slot(15);
        CHECK.due("an ASK for packet 3", net.packet(1, 2), 64 * 4 + 3);
    }

    private static void eachMessageHasItsOwnSilence() {
        GrantNet net = new GrantNet();
        net.message(0, 3, 2, 0);
        net.message(1, 3, 2, 0);
        net.slot(1);
        net.lose(0, 100);
        net.lose(1, 100);
        net.slot(17);
        received(net, 0, "in slot 18", 1, 0, 1, 2, 0, 1, 1);
        received(net, 1, "in slot 18", 1, 0, 1, 2, 15, 0, 2);
        net.slot(1);
        received(net, 0, "in slot 19", 1, 0, 1, 2, 1, 1, 1);
        received(net, 1, "in slot 19", 1, 0, 1, 2, 0, 1, 2);
    }

    /** "of MODE 1: if 30 slots have gone by since that in which it was finished, it is not known any more." */
    private static void twentyNineAndThirtySlots() {
        GrantNet net = new GrantNet();
        net.message(0, 1, 2, 1);
        net.slot(4);
        received(net, 0, "in slot 4", 2, 1, 0, 0, 0, 0, 0);
        net.slot(29);
        received(net, 0, "in slot 33", 2, 1, 0, 0, 0, 0, 0);
        CHECK.due("both are in", net.in(0, 0) && net.in(0, 1), true);
        net.slot(1);
        received(net, 0, "in slot 34", 0, 1, 0, 0, 0, 0, 0);
        CHECK.due("none is in", net.in(0, 0) || net.in(0, 1), false);
        CHECK.due("the list has it still", net.finished(1, 0), 0);
        CHECK.due("the sender knows nothing of it", net.sent(0, 0), 1);
    }

    /** So many messages of one packet to host 2 that go first, then one of mode 1 to host 1, whose first DONE is lost. */
    private static GrantNet oneOfModeOneAfter(int others) {
        GrantNet net = new GrantNet();
        for (int i = 0; i < others; i++) {
            net.message(0, 2, 1, 0);
        }
        net.message(0, 1, 1, 1);
        net.lose(1, 1);
        return net;
    }

    /** Finished in slot 12, tried in slot 40, so that its DATA comes in slot 42, ahead of C1: a DONE is due. */
    private static void dataInTheThirtiethSlot() {
        GrantNet net = oneOfModeOneAfter(9);
        net.slot(41);
        received(net, 9, "in slot 41", 2, 1, 0, 0, 0, 0, 0);
        net.slot(1);
        received(net, 9, "in slot 42", 0, 1, 0, 0, 0, 0, 0);
        CHECK.due("a DONE", net.packet(1, 0), 3);
        CHECK.due("the list has it once", net.host(1, 5), 1);
        net.slot(2);
        CHECK.due("delivered", net.sent(9, 7), 44);
    }

    /** Finished in slot 11, not known from slot 41 on: what comes in slot 42 is executed again, for 30 slots more. */
    private static void dataAfterTheThirtiethSlot() {
        GrantNet net = oneOfModeOneAfter(8);
        net.slot(40);
        received(net, 8, "in slot 40", 2, 1, 0, 0, 0, 0, 0);
        net.slot(1);
        received(net, 8, "in slot 41", 0, 1, 0, 0, 0, 0, 0);
        net.slot(1);
        received(net, 8, "in slot 42", 2, 2, 0, 0, 0, 0, 0);
        CHECK.due("the list has it twice", net.host(1, 5), 2);
        CHECK.due("the latest", net.finished(1, 0), 8);
        CHECK.due("and the one ahead of it", net.finished(1, 1), 8);
        net.slot(29);
        received(net, 8, "in slot 71", 2, 2, 0, 0, 0, 0, 0);
        net.slot(1);
        received(net, 8, "in slot 72", 0, 2, 0, 0, 0, 0, 0);
    }

    private static void modeZeroStaysKnown() {
        GrantNet net = new GrantNet();
        net.message(0, 1, 1, 0);
        net.lose(1, 5);
        net.slot(200);
        received(net, 0, "in slot 200", 2, 1, 0, 0, 0, 0, 0);
        net.slot(2);
        received(net, 0, "in slot 202, with DATA again", 2, 1, 0, 0, 0, 0, 0);
        CHECK.due("a DONE", net.packet(1, 0), 3);
    }
}
