/** Promise 11: host. */
final class P11HostTest {
    private static final Check CHECK = new Check("P11HostTest");

    public static void main(String[] args) {
        wrongInputs();
        grantedAndNotIn();
        due();
        cutoffs();
        cutoffsOfTheLatestSixteen();
        cutoffsGivePriorities();
        sentAndFinished();
        CHECK.end();
    }

    private static void wrongInputs() {
        GrantNet net = new GrantNet();
        int[][] wrong = {{-1, 0}, {8, 0}, {Integer.MAX_VALUE, 0}, {0, -1}, {0, 6}, {0, Integer.MIN_VALUE}};
        for (int[] w : wrong) {
            CHECK.due("host of none", net.host(w[0], w[1]), -1);
        }
    }

    private static void grantedAndNotIn() {
        GrantNet net = new GrantNet();
        net.message(0, 3, 40, 0);
        net.message(1, 3, 2, 0);
        net.slot(3);
        CHECK.due("7 of message 0 less one", net.host(3, 0), 6);
        net.slot(1);
        CHECK.due("and 2 of message 1 less one", net.host(3, 0), 7);
        CHECK.due("none at the sender", net.host(0, 0), 0);
        net.slot(150);
        CHECK.due("none of finished ones", net.host(3, 0), 0);
    }

    /** Four messages are KNOWN; as the shortest is finished the longest is chosen: a DONE and a GRANT are due. */
    private static void due() {
        GrantNet net = new GrantNet();
        net.message(1, 3, 20, 0);
        net.message(2, 3, 30, 0);
        net.slot(1);
        net.lose(1, 100);
        net.lose(2, 100);
        net.message(4, 3, 2, 0);
        net.message(5, 3, 45, 0);
        net.slot(1);
        net.lose(5, 100);
        net.slot(5);
        CHECK.due("message 3 is known", net.received(3, 0), 1);
        CHECK.due("it is not chosen", net.chosen(3, 2), 1);
        CHECK.due("nothing is due", net.host(3, 1), 0);
        net.slot(1);
        CHECK.due("message 2 is finished", net.received(2, 0), 2);
        CHECK.due("the DONE goes first", net.packet(3, 0), 3);
        CHECK.due("message 3 is chosen", net.chosen(3, 2), 3);
        CHECK.due("the GRANT is due", net.host(3, 1), 1);
        net.slot(1);
        CHECK.due("the GRANT goes", net.packet(3, 2), 4 * 7 + 3);
        CHECK.due("nothing is due", net.host(3, 1), 0);
    }

    private static void cutoffs() {
        GrantNet net = new GrantNet();
        int[] lengths = {9, 5, 30, 1, 60, 7};
        int[][] wants = {{9, 9}, {5, 9}, {9, 30}, {5, 9}, {5, 30}, {7, 30}};
        for (int i = 0; i < lengths.length; i++) {
            net.message(6, 2, lengths[i], 0);
            CHECK.due("first cutoff of " + (i + 1), net.host(6, 2), wants[i][0]);
            CHECK.due("second cutoff of " + (i + 1), net.host(6, 3), wants[i][1]);
        }
        CHECK.due("the receiver has none", net.host(2, 2), 0);
    }

    private static void cutoffsOfTheLatestSixteen() {
        GrantNet net = new GrantNet();
        for (int length = 40; length >= 25; length--) {
            net.message(0, 1, length, 0);
        }
        CHECK.due("of 25 .. 40, place 5", net.host(0, 2), 30);
        CHECK.due("of 25 .. 40, place 10", net.host(0, 3), 35);
        for (int i = 0; i < 8; i++) {
            net.message(0, 1, 60, 0);
        }
        CHECK.due("of 25 .. 32 and eight of 60, place 5", net.host(0, 2), 30);
        CHECK.due("of 25 .. 32 and eight of 60, place 10", net.host(0, 3), 60);
        net.slot(200);
        CHECK.due("they do not change as slots go by", net.host(0, 2), 30);
    }

    private static void cutoffsGivePriorities() {
        GrantNet net = new GrantNet();
        net.message(0, 1, 2, 0);
        net.message(0, 2, 3, 0);
        net.message(0, 3, 4, 0);
        net.message(0, 1, 1, 0);
        // 1, 2, 3, 4: the cutoffs are 2 and 3.
        int[] priorities = {1, 1, 1, 2, 2, 2, 3, 3, 3, 3};
        for (int i = 0; i < priorities.length; i++) {
            net.slot(1);
            CHECK.due("priority in slot " + (i + 1), net.packet(0, 3), priorities[i]);
        }
    }

    private static void sentAndFinished() {
        GrantNet net = new GrantNet();
        net.message(0, 1, 1, 0);
        net.message(0, 1, 2, 0);
        net.slot(3);
        CHECK.due("sent three", net.host(0, 4), 3);
        CHECK.due("a DONE went", net.host(1, 4), 1);
        CHECK.due("finished one", net.host(1, 5), 1);
        net.slot(10);
        CHECK.due("no more", net.host(0, 4), 3);
        // A DONE for each, and no GRANT: both were permitted at once.
        CHECK.due("two DONE went", net.host(1, 4), 2);
        CHECK.due("finished two", net.host(1, 5), 2);
    }
}
