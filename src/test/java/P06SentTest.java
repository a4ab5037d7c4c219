/** Promise 6: sent, and what a sender does. */
final class P06SentTest {
    private static final Check CHECK = new Check("P06SentTest");

    public static void main(String[] args) {
        wrongInputs();
        aMessageIsGrantedAndDelivered();
        quietFails();
        aTryHelps();
        anAskAndAGrantEndTheQuiet();
        anAskPermits();
        CHECK.end();
    }

    private static void sent(GrantNet net, int m, String when, int... wants) {
        CHECK.row("sent " + m + " " + when + ", what", what -> net.sent(m, what), wants);
    }

    private static void wrongInputs() {
        GrantNet net = new GrantNet();
        net.message(0, 1, 3, 0);
        int[][] wrong = {{-1, 0}, {1, 0}, {48, 0}, {Integer.MAX_VALUE, 0}, {0, -1}, {0, 8}, {0, Integer.MIN_VALUE}};
        for (int[] w : wrong) {
            CHECK.due("sent of none", net.sent(w[0], w[1]), -1);
        }
    }

    private static void aMessageIsGrantedAndDelivered() {
        GrantNet net = new GrantNet();
        net.message(0, 1, 10, 0);
        sent(net, 0, "at first", 0, 0, 4, 10, 0, 0, 3, 0);
        net.slot(1);
        sent(net, 0, "in slot 1", 0, 1, 4, 9, 1, 0, 3, 0);
        net.slot(3);
        sent(net, 0, "in slot 4", 0, 4, 4, 6, 4, 0, 3, 0);
        net.slot(1);
        sent(net, 0, "in slot 5, with the first GRANT", 0, 5, 7, 5, 1, 0, 1, 0);
        net.slot(8);
        sent(net, 0, "in slot 13", 0, 10, 10, 0, 6, 0, 1, 0);
        net.slot(1);
        sent(net, 0, "in slot 14, with the DONE", 1, 10, 10, 0, 0, 0, 1, 14);
        net.slot(100);
        sent(net, 0, "later", 1, 10, 10, 0, 0, 0, 1, 14);
    }

    private static void quietFails() {
        GrantNet net = new GrantNet();
        net.lose(0, 100);
        net.message(0, 1, 1, 0);
        net.message(0, 1, 1, 0);
        net.slot(39);
        sent(net, 1, "in slot 39", 0, 1, 1, 0, 39, 0, 3, 0);
        net.slot(1);
        sent(net, 0, "in slot 40, packet 0 went again", 0, 1, 1, 0, 0, 1, 3, 0);
        sent(net, 1, "in slot 40, packet 0 is wanted", 0, 1, 1, 1, 0, 1, 3, 0);
        net.slot(1);
        sent(net, 1, "in slot 41", 0, 1, 1, 0, 1, 1, 3, 0);
        net.slot(198);
        sent(net, 1, "in slot 239", 0, 1, 1, 0, 39, 5, 3, 0);
        net.slot(1);
        sent(net, 1, "in slot 240", 2, 1, 1, 0, 0, 6, 3, 240);
        net.slot(60);
        sent(net, 1, "later", 2, 1, 1, 0, 0, 6, 3, 240);
        CHECK.due("six times each", net.host(0, 4), 12);
        CHECK.due("all lost", net.total(1), 12);
    }

    private static void aTryHelps() {
        GrantNet net = new GrantNet();
        net.lose(0, 1);
        net.message(0, 1, 1, 0);
        net.slot(43);
        CHECK.due("one try", net.sent(0, 5), 1);
        net.slot(1);
        sent(net, 0, "in slot 44", 1, 1, 1, 0, 0, 0, 3, 44);
    }

    private static void anAskAndAGrantEndTheQuiet() {
        GrantNet net = new GrantNet();
        net.message(0, 1, 5, 0);
        net.lose(0, 4);
        net.slot(40);
        CHECK.due("one try", net.sent(0, 5), 1);
        CHECK.due("packet 0 goes again", net.packet(0, 2), 0);
        net.lose(1, 1);
        net.slot(17);
        CHECK.due("in slot 57 a try still", net.sent(0, 5), 1);
        CHECK.due("the GRANT was lost", net.sent(0, 2), 4);
        CHECK.due("an ASK is on its way", net.packet(1, 0), 2);
        net.slot(2);
        sent(net, 0, "in slot 59: permitted by the ASK, packet 1 goes again", 0, 4, 5, 1, 1, 0, 3, 0);
        CHECK.due("packet 1", net.packet(0, 2), 1);
        net.slot(1);
        CHECK.due("packet 4, by the level at first", net.packet(0, 2), 4);
        CHECK.due("its priority", net.packet(0, 3), 3);
    }

    private static void anAskPermits() {
        GrantNet net = new GrantNet();
        net.message(0, 1, 5, 0);
        // All four packets come, every GRANT is lost: packet 4 is not below NEXT, so that it is not wanted.
        net.lose(1, 1);
        net.slot(21);
        CHECK.due("the ASK for packet 4", net.packet(1, 2), 64 * 5 + 4);
        net.slot(2);
        sent(net, 0, "in slot 23", 0, 5, 5, 0, 1, 0, 3, 0);
        net.slot(4);
        sent(net, 0, "in slot 27", 1, 5, 5, 0, 0, 0, 3, 27);
    }
}
