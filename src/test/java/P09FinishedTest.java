/** Promise 9: finished. */
final class P09FinishedTest {
    private static final Check CHECK = new Check("P09FinishedTest");

    public static void main(String[] args) {
        inTheirOrder();
        theLatestSixtyFour();
        CHECK.end();
    }

    private static void inTheirOrder() {
        GrantNet net = new GrantNet();
        net.message(0, 3, 6, 0);
        net.message(1, 3, 2, 0);
        net.message(2, 0, 1, 0);
        net.slot(60);
        CHECK.row("finished of 3", k -> net.finished(3, k), 0, 1, -1);
        CHECK.row("finished of 0", k -> net.finished(0, k), 2, -1);
        CHECK.row("finished of 1", k -> net.finished(1, k), -1);
        int[][] wrong = {{-1, 0}, {8, 0}, {3, -1}, {3, 64}, {3, Integer.MIN_VALUE}, {3, Integer.MAX_VALUE},
            {Integer.MAX_VALUE, 0}};
        for (int[] w : wrong) {
            CHECK.due("finished of none", net.finished(w[0], w[1]), -1);
        }
    }

    /** No DONE comes through, so that each message is executed again at each of its five tries. */
    private static void theLatestSixtyFour() {
        GrantNet net = new GrantNet();
        net.lose(1, 100);
        for (int m = 0; m < 12; m++) {
            net.message(0, 1, 1, 1);
        }
        net.slot(130);
        // Of the third try, in slot 120, that of message 8 came in slot 130.
        CHECK.due("in all, so far", net.host(1, 5), 45);
        for (int k = 0; k < 45; k++) {
            CHECK.due("finished " + k, net.finished(1, k), (44 - k) % 12);
        }
        CHECK.due("no 46th", net.finished(1, 45), -1);
        net.slot(120);
        CHECK.due("in all", net.host(1, 5), 72);
        for (int k = 0; k < 64; k++) {
            CHECK.due("finished " + k, net.finished(1, k), 11 - k % 12);
        }
        CHECK.due("no 65th", net.finished(1, 64), -1);
        CHECK.due("executed six times", net.received(11, 1), 6);
    }
}
