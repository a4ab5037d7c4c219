/** The sender: how a message begins, and what GRANT, ASK and DONE do to it. */
final class EdgeSenderTest {
    private static final Check CHECK = new Check("EdgeSenderTest");

    public static void main(String[] args) {
        fourOrTheLengthArePermitted();
        nothingGoesBeyondPermitted();
        aGrantOfMore();
        aGrantOfNotMore();
        anAskBelowNext();
        anAskOfNext();
        anAskOfMore();
        anAskOfNotMore();
        aGrantEndsQuietAndTries();
        anAskEndsQuietAndTries();
        aDoneEndsQuietAndTries();
        aDoneForADeliveredOne();
        aDoneInTheLastSlot();
        aDoneForAFailedOne();
        aGrantAndAnAskForAFailedOne();
        aFailedOneSendsNoMore();
        CHECK.end();
    }

    private static void sent(GrantNet net, int m, String when, int... wants) {
        CHECK.row("sent " + m + " " + when + ", what", what -> net.sent(m, what), wants);
    }

    /** "a message begins with NEXT 0, PERMITTED the lesser of 4 and LENGTH, LEVEL 3, .. QUIET 0, TRIES 0". */
    private static void fourOrTheLengthArePermitted() {
        int[][] permittedOfLength = {{1, 1}, {2, 2}, {3, 3}, {4, 4}, {5, 4}, {60, 4}};
        for (int[] p : permittedOfLength) {
            GrantNet net = new GrantNet();
            net.message(0, 1, p[0], 0);
            sent(net, 0, "of length " + p[0], 0, 0, p[1], p[0], 0, 0, 3, 0);
        }
    }

    /** "NEXT below PERMITTED": without a GRANT four packets go, and no fifth. */
    private static void nothingGoesBeyondPermitted() {
        int[][] sentOfLength = {{3, 3}, {4, 4}, {5, 4}, {60, 4}};
        for (int[] s : sentOfLength) {
            GrantNet net = new GrantNet();
            net.message(0, 1, s[0], 0);
            net.lose(9, 100);
            net.slot(39);
            CHECK.due("sent, of length " + s[0], net.host(0, 4), s[1]);
            CHECK.due("NEXT, of length " + s[0], net.sent(0, 1), s[1]);
            CHECK.due("LEFT, of length " + s[0], net.sent(0, 3), s[0] - s[1]);
        }
    }

    /** "GRANT: PERMITTED is the TARGET, if that is more; LEVEL is the rest (1 + k)." */
    private static void aGrantOfMore() {
        GrantNet net = new GrantNet();
        net.message(0, 1, 5, 0);
        net.slot(4);
        sent(net, 0, "ahead of the GRANT", 0, 4, 4, 1, 4, 0, 3, 0);
        net.slot(1);
        sent(net, 0, "with the GRANT", 0, 5, 5, 0, 1, 0, 1, 0);
    }

    /**
     * A message of mode 1 is executed, its DONE is lost, it is forgotten, and known again by a try: the GRANT that
     * follows tells less than is permitted, but another LEVEL, as a shorter message is CHOSEN ahead of it.
     */
    private static GrantNet knownAgainBehindAShorterOne() {
        GrantNet net = new GrantNet();
        net.message(0, 1, 12, 1);
        net.slot(13);
        net.lose(1, 1);
        net.slot(32);
        net.message(2, 1, 2, 0);
        net.slot(1);
        net.lose(2, 100);
        net.slot(6);
        return net;
    }

    private static void aGrantOfNotMore() {
        GrantNet net = knownAgainBehindAShorterOne();
        sent(net, 0, "in slot 52, ahead of the GRANT", 0, 12, 12, 0, 3, 1, 1, 0);
        CHECK.due("the GRANT is for 7, as the second", net.packet(8, 2), 4 * 7 + 2);
        net.slot(1);
        sent(net, 0, "in slot 53, with the GRANT", 0, 12, 12, 0, 1, 0, 2, 0);
    }

    /** "ASK: PERMITTED is its GRANTED, if that is more": here it is less. */
    private static void anAskOfNotMore() {
        GrantNet net = knownAgainBehindAShorterOne();
        net.slot(15);
        CHECK.due("the ASK has 7 and packet 1", net.packet(8, 2), 64 * 7 + 1);
        sent(net, 0, "in slot 67, ahead of the ASK", 0, 12, 12, 0, 15, 0, 2, 0);
        net.slot(1);
        CHECK.due("packet 1 goes again", net.packet(0, 2), 1);
        sent(net, 0, "in slot 68, with the ASK", 0, 12, 12, 0, 1, 0, 2, 0);
    }

    /** "its packet is WANTED, if it is below NEXT": packet 3 is, as NEXT is 4. */
    private static void anAskBelowNext() {
        GrantNet net = new GrantNet();
        net.message(0, 1, 4, 0);
        net.slot(3);
        net.lose(0, 1);
        net.slot(17);
        CHECK.due("the ASK, for packet 3", net.packet(1, 2), 64 * 4 + 3);
        net.lose(0, 100);
        net.slot(1);
        CHECK.due("four packets went", net.host(0, 4), 4);
        net.slot(1);
        CHECK.due("packet 3 went again", net.host(0, 4), 5);
        sent(net, 0, "in slot 22", 0, 4, 4, 0, 1, 0, 3, 0);
    }

    /** The sender is kept from packet 4 by shorter messages: an ASK for it makes nothing WANTED, as NEXT is 4. */
    private static void anAskOfNext() {
        GrantNet net = new GrantNet();
        net.message(0, 1, 8, 0);
        net.lose(1, 2);
        // GRANTs go in the slots 3 and 4 and are lost; packet 3 comes in slot 6, an ASK goes in slot 21.
        net.slot(21);
        CHECK.due("the ASK, for packet 4", net.packet(1, 2), 64 * 8 + 4);
        net.slot(1);
        net.message(0, 2, 1, 0);
        sent(net, 0, "ahead of the ASK", 0, 4, 4, 4, 22, 0, 3, 0);
        net.slot(1);
        CHECK.due("the shorter one goes", net.packet(0, 1), 1);
        sent(net, 0, "with the ASK", 0, 4, 8, 4, 1, 0, 3, 0);
    }

    /** The same for a sender that can go on at once. */
    private static void anAskOfMore() {
        GrantNet net = new GrantNet();
        net.message(0, 1, 8, 0);
        net.lose(1, 2);
        net.slot(22);
        sent(net, 0, "ahead of the ASK", 0, 4, 4, 4, 22, 0, 3, 0);
        net.slot(1);
        sent(net, 0, "with the ASK", 0, 5, 8, 3, 1, 0, 3, 0);
        CHECK.due("packet 4 goes", net.packet(0, 2), 4);
    }

    /** "Each of them: QUIET and TRIES are 0." Packets 0 .. 3 are lost at first, packet 0 comes by a try. */
    private static void aGrantEndsQuietAndTries() {
        GrantNet net = new GrantNet();
        net.message(0, 1, 5, 0);
        net.lose(0, 4);
        net.slot(43);
        sent(net, 0, "ahead of the GRANT", 0, 4, 4, 1, 3, 1, 3, 0);
        net.slot(1);
        sent(net, 0, "with the GRANT", 0, 5, 5, 0, 1, 0, 1, 0);
    }

    private static void anAskEndsQuietAndTries() {
        GrantNet net = new GrantNet();
        net.message(0, 1, 4, 0);
        net.lose(0, 4);
        net.slot(58);
        CHECK.due("the ASK", net.packet(8, 0), 2);
        sent(net, 0, "ahead of the ASK", 0, 4, 4, 0, 18, 1, 3, 0);
        net.slot(1);
        sent(net, 0, "with the ASK", 0, 4, 4, 0, 1, 0, 3, 0);
    }

    private static void aDoneEndsQuietAndTries() {
        GrantNet net = new GrantNet();
        net.message(0, 1, 1, 0);
        net.lose(0, 1);
        net.slot(43);
        sent(net, 0, "ahead of the DONE", 0, 1, 1, 0, 3, 1, 3, 0);
        net.slot(1);
        sent(net, 0, "with the DONE", 1, 1, 1, 0, 0, 0, 3, 44);
    }

    /**
     * "What comes for one that is not OPEN is nothing." Packet 0 goes by a try in slot 40 and, as an ASK tells, in slot
     * 41 once more: two DONEs come, in the slots 44 and 45.
     */
    private static void aDoneForADeliveredOne() {
        GrantNet net = new GrantNet();
        net.message(0, 2, 2, 0);
        net.message(0, 2, 2, 0);
        net.message(0, 1, 2, 0);
        net.lose(1, 1);
        net.slot(4);
        net.lose(0, 1);
        net.slot(37);
        CHECK.due("packet 0 goes once more", net.packet(0, 2), 0);
        CHECK.due("the sixth, the seventh and the eighth", net.host(0, 4), 8);
        net.slot(3);
        sent(net, 2, "in slot 44", 1, 2, 2, 0, 0, 0, 3, 44);
        CHECK.due("a second DONE is on its way", net.packet(8, 0), 3);
        net.slot(1);
        sent(net, 2, "in slot 45", 1, 2, 2, 0, 0, 0, 3, 44);
        net.slot(100);
        sent(net, 2, "later", 1, 2, 2, 0, 0, 0, 3, 44);
    }

    /**
     * Message 3 is finished early, but its DONEs are lost. Its fifth try waits, with the priority 3, behind a long
     * message of host 2 to the same host; it is to fail in slot 240.
     */
    private static GrantNet aLateTry(int lengthOfTheOther) {
        GrantNet net = new GrantNet();
        for (int i = 0; i < 3; i++) {
            net.message(0, 2, 1, 0);
        }
        net.message(0, 1, 2, 0);
        net.lose(1, 5);
        net.slot(190);
        net.message(2, 1, lengthOfTheOther, 0);
        net.slot(49);
        CHECK.due("the fifth try waits, or has gone", net.host(0, 4), 10);
        sent(net, 3, "in slot 239", 0, 2, 2, 0, 39, 5, 3, 0);
        return net;
    }

    /** The DONE comes in slot 240, in A: ahead of C2. */
    private static void aDoneInTheLastSlot() {
        GrantNet net = aLateTry(45);
        net.slot(1);
        sent(net, 3, "in slot 240", 1, 2, 2, 0, 0, 0, 3, 240);
    }

    /** The DONE comes in slot 241. */
    private static void aDoneForAFailedOne() {
        GrantNet net = aLateTry(46);
        net.slot(1);
        CHECK.due("the DONE is on its way", net.packet(8, 0), 3);
        sent(net, 3, "in slot 240", 2, 2, 2, 0, 0, 6, 3, 240);
        net.slot(1);
        CHECK.due("the DONE came", net.packet(8, 0), -1);
        sent(net, 3, "in slot 241", 2, 2, 2, 0, 0, 6, 3, 240);
        net.slot(100);
        sent(net, 3, "later", 2, 2, 2, 0, 0, 6, 3, 240);
    }

    /** The fifth try is kept back by shorter messages until slot 239: its GRANT and its ASKs come too late. */
    private static void aGrantAndAnAskForAFailedOne() {
        GrantNet net = new GrantNet();
        net.message(0, 1, 10, 0);
        net.lose(0, 8);
        net.slot(199);
        // 39 packets, in the slots 200 .. 238.
        beginShorterOnes(net, 4, 4, 4, 4, 4);
        net.slot(16);
        beginShorterOnes(net, 4, 4, 4, 4, 3);
        net.slot(24);
        CHECK.due("packet 0 goes in slot 239", net.packet(0, 1), 0);
        net.slot(3);
        CHECK.due("a GRANT is on its way", net.packet(8, 0), 1);
        sent(net, 0, "in slot 242", 2, 4, 4, 6, 0, 6, 3, 240);
        net.slot(1);
        sent(net, 0, "in slot 243, with the GRANT", 2, 4, 4, 6, 0, 6, 3, 240);
        net.slot(14);
        CHECK.due("an ASK is on its way", net.packet(8, 0), 2);
        net.slot(1);
        sent(net, 0, "in slot 258, with the ASK", 2, 4, 4, 6, 0, 6, 3, 240);
        CHECK.due("nothing goes for it", net.packet(0, 0), -1);
    }

    /** "DATA of an OPEN message": the fifth try is kept back until slot 240, in which the message fails. */
    private static void aFailedOneSendsNoMore() {
        GrantNet net = new GrantNet();
        net.message(0, 1, 10, 0);
        net.lose(0, 8);
        net.slot(199);
        // 41 packets, in the slots 200 .. 240.
        beginShorterOnes(net, 4, 4, 4, 4, 4);
        net.slot(16);
        beginShorterOnes(net, 4, 4, 4, 4, 4, 1);
        net.slot(25);
        CHECK.due("another one goes in slot 240", net.packet(0, 1) > 0, true);
        CHECK.due("failed", net.sent(0, 0), 2);
        net.slot(1);
        CHECK.due("nothing goes in slot 241", net.packet(0, 0), -1);
        net.slot(10);
        CHECK.due("nor later on", net.host(0, 4), 8 + 41);
    }

    private static void beginShorterOnes(GrantNet net, int... lengths) {
        for (int length : lengths) {
            net.message(0, 2, length, 0);
        }
    }
}
