/** Promise 10: chosen, and what is granted to them. */
final class P10ChosenTest {
    private static final Check CHECK = new Check("P10ChosenTest");

    public static void main(String[] args) {
        theThreeWithTheFewest();
        ofTwoAlikeTheFirstToArrive();
        aFinishedOneIsChosenNoMore();
        CHECK.end();
    }

    private static void chosen(GrantNet net, String when, int... wants) {
        CHECK.row("chosen " + when + ",", k -> net.chosen(3, k), wants);
    }

    private static void theThreeWithTheFewest() {
        GrantNet net = new GrantNet();
        net.message(0, 3, 40, 0);
        net.message(1, 3, 20, 0);
        net.message(2, 3, 30, 0);
        net.message(4, 3, 5, 0);
        net.slot(1);
        // Of each only packet 0 comes.
        for (int h : new int[] {0, 1, 2, 4}) {
            net.lose(h, 100);
        }
        net.slot(1);
        chosen(net, "in slot 2", -1, -1, -1);
        net.slot(1);
        chosen(net, "in slot 3", 0, -1, -1);
        CHECK.due("a GRANT for the first", net.packet(3, 2), 4 * 7 + 1);
        net.slot(1);
        chosen(net, "in slot 4", 1, 0, -1);
        CHECK.due("a GRANT for message 1", net.packet(3, 1), 1);
        net.slot(1);
        chosen(net, "in slot 5", 1, 2, 0);
        CHECK.due("a GRANT for the second", net.packet(3, 2), 4 * 7 + 2);
        net.slot(1);
        chosen(net, "in slot 6", 3, 1, 2);
        CHECK.due("a GRANT for message 3", net.packet(3, 1), 3);
        CHECK.due("at most its length", net.packet(3, 2), 4 * 5 + 1);
        net.slot(1);
        chosen(net, "in slot 7", 3, 1, 2);
        CHECK.due("what is granted is not granted again", net.packet(3, 0), -1);
        int[][] wrong = {{3, -1}, {3, 3}, {3, Integer.MAX_VALUE}, {3, Integer.MIN_VALUE}, {-1, 0}, {8, 0},
            {Integer.MIN_VALUE, 0}, {0, 0}};
        for (int[] w : wrong) {
            CHECK.due("chosen of none", net.chosen(w[0], w[1]), -1);
        }
    }

    private static void ofTwoAlikeTheFirstToArrive() {
        GrantNet net = new GrantNet();
        net.message(1, 3, 10, 0);
        net.message(0, 3, 10, 0);
        net.slot(1);
        net.lose(0, 100);
        net.lose(1, 100);
        net.slot(3);
        CHECK.due("message 1 came first", net.received(1, 6), 1);
        CHECK.due("message 0 came second", net.received(0, 6), 2);
        chosen(net, "in slot 4", 1, 0, -1);
    }

    private static void aFinishedOneIsChosenNoMore() {
        GrantNet net = new GrantNet();
        net.message(0, 3, 2, 0);
        net.slot(3);
        chosen(net, "in slot 3", 0, -1, -1);
        net.slot(1);
        CHECK.due("finished", net.received(0, 0), 2);
        chosen(net, "in slot 4", -1, -1, -1);
    }
}
