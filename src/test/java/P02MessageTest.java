/** Promise 2: message. */
final class P02MessageTest {
    private static final Check CHECK = new Check("P02MessageTest");

    public static void main(String[] args) {
        wrongOnesDoNotBegin();
        edgesBegin();
        fortyEightBegin();
        CHECK.end();
    }

    private static void wrongOnesDoNotBegin() {
        GrantNet net = new GrantNet();
        int[][] wrong = {
            {-1, 0, 3, 0}, {8, 0, 3, 0}, {0, -1, 3, 0}, {0, 8, 3, 0}, {5, 5, 3, 0}, {0, 1, 0, 0},
            {0, 1, -1, 0}, {0, 1, 61, 0}, {0, 1, 3, -1}, {0, 1, 3, 2},
            {Integer.MIN_VALUE, 1, 3, 0}, {0, Integer.MAX_VALUE, 3, 0},
            {0, 1, Integer.MAX_VALUE, 0}, {0, 1, 3, Integer.MIN_VALUE}};
        for (int[] w : wrong) {
            CHECK.due("a wrong message", net.message(w[0], w[1], w[2], w[3]), -1);
        }
        CHECK.due("no message 0", net.sent(0, 0), -1);
        CHECK.due("no length was noted", net.host(0, 2), 0);
        CHECK.due("the first right one", net.message(0, 1, 3, 0), 0);
    }

    private static void edgesBegin() {
        GrantNet net = new GrantNet();
        CHECK.due("length 1", net.message(0, 7, 1, 1), 0);
        CHECK.due("length 60", net.message(7, 0, 60, 0), 1);
        CHECK.row("sent of length 1", what -> net.sent(0, what), 0, 0, 1, 1, 0, 0, 3, 0);
        CHECK.row("sent of length 60", what -> net.sent(1, what), 0, 0, 4, 60, 0, 0, 3, 0);
        CHECK.row("received", what -> net.received(1, what), 0, 0, 0, 0, 0, 0, 0);
    }

    private static void fortyEightBegin() {
        GrantNet net = new GrantNet();
        for (int m = 0; m < 48; m++) {
            CHECK.due("message " + m, net.message(m % 8, (m + 1) % 8, 1 + m, m % 2), m);
        }
        CHECK.due("the 49th", net.message(0, 1, 3, 0), -1);
        net.slot(200);
        CHECK.due("all stay counted, the 49th later", net.message(0, 1, 3, 0), -1);
        CHECK.due("the 48th is there", net.sent(47, 1) > 0, true);
        CHECK.due("there is no 49th", net.sent(48, 0), -1);
    }
}
