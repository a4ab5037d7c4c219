/** Promise 7: received, and what a receiver does. */
final class P07ReceivedTest {
    private static final Check CHECK = new Check("P07ReceivedTest");

    public static void main(String[] args) {
        wrongInputs();
        aMessageIsKnownAndFinished();
        silenceAsks();
        eightAsksForget();
        modeOneIsForgottenAfterThirtySlots();
        modeOneIsExecutedAgain();
        modeZeroIsExecutedOnce();
        CHECK.end();
    }

    private static void received(GrantNet net, int m, String when, int... wants) {
        CHECK.row("received " + m + " " + when + ", what", what -> net.received(m, what), wants);
    }

    private static void wrongInputs() {
        GrantNet net = new GrantNet();
        net.message(0, 1, 3, 0);
        net.slot(3);
        int[][] wrong = {{-1, 0}, {1, 0}, {48, 0}, {Integer.MAX_VALUE, 0}, {0, -1}, {0, 7}, {0, Integer.MIN_VALUE}};
        for (int[] w : wrong) {
            CHECK.due("received of none", net.received(w[0], w[1]), -1);
        }
    }

    private static void aMessageIsKnownAndFinished() {
        GrantNet net = new GrantNet();
        net.message(0, 1, 10, 0);
        net.slot(2);
        received(net, 0, "in slot 2", 0, 0, 0, 0, 0, 0, 0);
        net.slot(1);
        received(net, 0, "in slot 3", 1, 0, 9, 7, 1, 0, 1);
        net.slot(1);
        received(net, 0, "in slot 4", 1, 0, 8, 8, 1, 0, 1);
        net.slot(7);
        received(net, 0, "in slot 11", 1, 0, 1, 10, 1, 0, 1);
        net.slot(1);
        received(net, 0, "in slot 12", 2, 1, 0, 0, 0, 0, 0);
        net.slot(200);
        received(net, 0, "later", 2, 1, 0, 0, 0, 0, 0);
    }

    /** Packet 0 of a message of two comes in slot 3, packet 1 is lost. */
    private static GrantNet halfCame(int lost) {
        GrantNet net = new GrantNet();
        net.message(0, 1, 2, 0);
        net.slot(1);
        net.lose(0, lost);
        net.slot(2);
        return net;
    }

    private static void silenceAsks() {
        GrantNet net = halfCame(1);
        received(net, 0, "in slot 3", 1, 0, 1, 2, 1, 0, 1);
        net.slot(14);
        received(net, 0, "in slot 17", 1, 0, 1, 2, 15, 0, 1);
        net.slot(1);
        received(net, 0, "in slot 18", 1, 0, 1, 2, 0, 1, 1);
        CHECK.due("the ASK's count", net.packet(1, 2), 64 * 2 + 1);
        net.slot(2);
        CHECK.due("packet 1 goes again", net.packet(0, 2), 1);
        net.slot(2);
        received(net, 0, "in slot 22", 2, 1, 0, 0, 0, 0, 0);
    }

    private static void eightAsksForget() {
        GrantNet net = halfCame(100);
        net.slot(126);
        received(net, 0, "in slot 129", 1, 0, 1, 2, 15, 7, 1);
        CHECK.due("packet 0 is in", net.in(0, 0), true);
        net.slot(1);
        received(net, 0, "in slot 130", 0, 0, 0, 0, 0, 0, 0);
        CHECK.due("packet 0 is in no more", net.in(0, 0), false);
        CHECK.due("no eighth ASK", net.packet(1, 0), -1);
        net.lose(0, 0);
        // The last ASK came to the sender in slot 116: packet 0 goes in slot 155.
        net.slot(26);
        received(net, 0, "in slot 156", 0, 0, 0, 0, 0, 0, 0);
        net.slot(1);
        received(net, 0, "in slot 157", 1, 0, 1, 2, 1, 0, 2);
        net.slot(18);
        received(net, 0, "in slot 175", 1, 0, 1, 2, 3, 1, 2);
        net.slot(1);
        received(net, 0, "in slot 176", 2, 1, 0, 0, 0, 0, 0);
    }

    private static void modeOneIsForgottenAfterThirtySlots() {
        GrantNet net = new GrantNet();
        net.message(0, 1, 1, 1);
        net.message(2, 1, 1, 0);
        net.slot(3);
        received(net, 0, "in slot 3", 2, 1, 0, 0, 0, 0, 0);
        net.slot(29);
        received(net, 0, "in slot 32", 2, 1, 0, 0, 0, 0, 0);
        net.slot(1);
        received(net, 0, "in slot 33", 0, 1, 0, 0, 0, 0, 0);
        net.slot(100);
        received(net, 1, "of mode 0", 2, 1, 0, 0, 0, 0, 0);
    }

    private static void modeOneIsExecutedAgain() {
        GrantNet net = new GrantNet();
        net.lose(1, 1);
        net.message(0, 1, 2, 1);
        net.slot(3);
        CHECK.due("the first arrival", net.received(0, 6), 1);
        net.slot(38);
        received(net, 0, "in slot 41", 0, 1, 0, 0, 0, 0, 0);
        net.slot(1);
        received(net, 0, "in slot 42", 1, 1, 1, 2, 1, 0, 2);
        net.slot(19);
        received(net, 0, "in slot 61, packet 1 was asked for", 2, 2, 0, 0, 0, 0, 0);
    }

    private static void modeZeroIsExecutedOnce() {
        GrantNet net = new GrantNet();
        net.lose(1, 1);
        net.message(0, 1, 1, 0);
        net.slot(42);
        CHECK.due("a DONE again", net.packet(1, 0), 3);
        received(net, 0, "in slot 42", 2, 1, 0, 0, 0, 0, 0);
        CHECK.due("it stands in the list once", net.host(1, 5), 1);
    }
}
