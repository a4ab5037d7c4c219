/** C2 of a slot: QUIET at 40 and TRIES at 6. */
final class EdgeQuietTest {
    private static final Check CHECK = new Check("EdgeQuietTest");

    public static void main(String[] args) {
        thirtyNineAndForty();
        fiveAndSixTries();
        packetZeroIsBelowNext();
        packetZeroIsNotBelowNext();
        anAnswerInTheFortiethSlot();
        anAnswerAfterTheFortiethSlot();
        onlyOpenOnesAreQuiet();
        CHECK.end();
    }

    private static void sent(GrantNet net, int m, String when, int... wants) {
        CHECK.row("sent " + m + " " + when + ", what", what -> net.sent(m, what), wants);
    }

    /** "QUIET grows by 1; if it is 40: QUIET is 0, TRIES grows by 1". */
    private static void thirtyNineAndForty() {
        GrantNet net = new GrantNet();
        net.slot(7);
        net.message(0, 1, 2, 0);
        net.lose(0, 100);
        net.slot(1);
        sent(net, 0, "in its first slot", 0, 1, 2, 1, 1, 0, 3, 0);
        net.slot(38);
        sent(net, 0, "in its slot 39", 0, 2, 2, 0, 39, 0, 3, 0);
        CHECK.due("two packets went", net.host(0, 4), 2);
        net.slot(1);
        sent(net, 0, "in its slot 40", 0, 2, 2, 0, 0, 1, 3, 0);
        CHECK.due("packet 0 went again at once", net.host(0, 4), 3);
        net.slot(39);
        sent(net, 0, "in its slot 79", 0, 2, 2, 0, 39, 1, 3, 0);
        net.slot(1);
        sent(net, 0, "in its slot 80", 0, 2, 2, 0, 0, 2, 3, 0);
    }

    /** "if TRIES is 6 it is FAILED, else packet 0 is WANTED". */
    private static void fiveAndSixTries() {
        GrantNet net = new GrantNet();
        net.message(0, 1, 1, 0);
        net.lose(0, 100);
        net.slot(199);
        sent(net, 0, "in slot 199", 0, 1, 1, 0, 39, 4, 3, 0);
        net.slot(1);
        sent(net, 0, "in slot 200", 0, 1, 1, 0, 0, 5, 3, 0);
        CHECK.due("the fifth try goes", net.host(0, 4), 6);
        net.slot(39);
        sent(net, 0, "in slot 239", 0, 1, 1, 0, 39, 5, 3, 0);
        net.slot(1);
        sent(net, 0, "in slot 240", 2, 1, 1, 0, 0, 6, 3, 240);
        CHECK.due("there is no sixth", net.host(0, 4), 6);
        net.lose(0, 0);
        net.slot(200);
        sent(net, 0, "in slot 440", 2, 1, 1, 0, 0, 6, 3, 240);
        CHECK.due("nor later on", net.host(0, 4), 6);
    }

    /** "packet 0 is WANTED, if it is below NEXT": one packet has gone, a shorter message goes in slot 40. */
    private static void packetZeroIsBelowNext() {
        GrantNet net = keptBack(38);
        sent(net, 0, "in slot 39", 0, 1, 4, 4, 39, 0, 3, 0);
        net.message(0, 2, 1, 0);
        net.slot(1);
        CHECK.due("another one goes in slot 40", net.packet(0, 1), 11);
        sent(net, 0, "in slot 40: one more is LEFT", 0, 1, 4, 5, 0, 1, 3, 0);
        net.slot(1);
        CHECK.due("packet 0 goes again", net.packet(0, 1) == 0 && net.packet(0, 2) == 0, true);
        sent(net, 0, "in slot 41", 0, 1, 4, 4, 1, 1, 3, 0);
        net.slot(1);
        CHECK.due("then packet 1", net.packet(0, 2), 1);
    }

    /** No packet has gone: nothing is WANTED, packet 0 goes as NEXT. */
    private static void packetZeroIsNotBelowNext() {
        GrantNet net = keptBack(39);
        sent(net, 0, "in slot 39", 0, 0, 4, 5, 39, 0, 3, 0);
        net.message(0, 2, 1, 0);
        net.slot(1);
        CHECK.due("another one goes in slot 40", net.packet(0, 1), 11);
        sent(net, 0, "in slot 40: no more is LEFT", 0, 0, 4, 5, 0, 1, 3, 0);
        net.slot(1);
        CHECK.due("packet 0 goes", net.packet(0, 1) == 0 && net.packet(0, 2) == 0, true);
        net.slot(1);
        CHECK.due("then packet 1", net.packet(0, 2), 1);
    }

    /** Slot 39, when so many packets of shorter messages to host 2 went ahead of message 0, which has five. */
    private static GrantNet keptBack(int packets) {
        GrantNet net = new GrantNet();
        net.message(0, 1, 5, 0);
        beginShorterOnes(net, 4, 4, 4, 4, 4);
        net.slot(10);
        beginShorterOnes(net, 4, 4, 4, 4, packets - 36);
        net.slot(29);
        return net;
    }

    private static void beginShorterOnes(GrantNet net, int... lengths) {
        for (int length : lengths) {
            net.message(0, 2, length, 0);
        }
    }

    /** So many short messages to host 2 go first. Of message 1's answers the GRANT and the first ASK are lost. */
    private static GrantNet aLateAsk(int others) {
        GrantNet net = new GrantNet();
        for (int i = 0; i < others; i++) {
            net.message(0, 2, 1, 0);
        }
        net.message(0, 1, 5, 0);
        net.lose(1, 2);
        net.slot(39);
        return net;
    }

    /** The four packets come in the slots 4 .. 7, the second ASK goes in slot 38 and comes in slot 40, in A. */
    private static void anAnswerInTheFortiethSlot() {
        GrantNet net = aLateAsk(1);
        sent(net, 1, "in slot 39", 0, 4, 4, 1, 39, 0, 3, 0);
        net.slot(1);
        sent(net, 1, "in slot 40", 0, 5, 5, 0, 1, 0, 3, 0);
        CHECK.due("packet 4 goes, not packet 0", net.packet(0, 2), 4);
    }

    /** All is one slot later. */
    private static void anAnswerAfterTheFortiethSlot() {
        GrantNet net = aLateAsk(2);
        sent(net, 2, "in slot 39", 0, 4, 4, 1, 39, 0, 3, 0);
        net.slot(1);
        sent(net, 2, "in slot 40", 0, 4, 4, 1, 0, 1, 3, 0);
        CHECK.due("packet 0 goes again", net.packet(0, 2), 0);
        net.slot(1);
        sent(net, 2, "in slot 41", 0, 5, 5, 0, 1, 0, 3, 0);
    }

    /** "for each of its OPEN messages": a DELIVERED one has no QUIET more. */
    private static void onlyOpenOnesAreQuiet() {
        GrantNet net = new GrantNet();
        net.message(0, 1, 1, 0);
        net.slot(4);
        CHECK.due("QUIET of an OPEN one", net.sent(0, 4), 4);
        net.slot(1);
        CHECK.due("of a DELIVERED one", net.sent(0, 4), 0);
        net.slot(200);
        sent(net, 0, "later", 1, 1, 1, 0, 0, 0, 3, 5);
        CHECK.due("it went once", net.host(0, 4), 1);
    }
}
