/** Promise 8: in. */
final class P08InTest {
    private static final Check CHECK = new Check("P08InTest");

    public static void main(String[] args) {
        GrantNet net = new GrantNet();
        net.message(0, 1, 3, 1);
        net.slot(1);
        net.lose(0, 1);
        net.slot(4);
        in(net, "packet 1 was lost", true, false, true);
        net.slot(20);
        in(net, "finished", true, true, true);
        CHECK.due("finished", net.received(0, 0), 2);
        int[][] wrong = {{0, -1}, {0, 3}, {0, 59}, {0, 60}, {0, 64}, {0, Integer.MAX_VALUE}, {0, Integer.MIN_VALUE},
            {1, 0}, {-1, 0}, {48, 0}, {Integer.MAX_VALUE, 0}, {Integer.MIN_VALUE, 0}};
        for (int[] w : wrong) {
            CHECK.due("in(" + w[0] + ", " + w[1] + ")", net.in(w[0], w[1]), false);
        }
        net.slot(100);
        CHECK.due("not known any more", net.received(0, 0), 0);
        in(net, "not known any more", false, false, false);
        theLongest();
        CHECK.end();
    }

    private static void in(GrantNet net, String when, boolean... wants) {
        for (int i = 0; i < wants.length; i++) {
            CHECK.due("in " + i + ", " + when, net.in(0, i), wants[i]);
        }
    }

    private static void theLongest() {
        GrantNet net = new GrantNet();
        net.message(3, 4, 60, 0);
        CHECK.due("none at first", net.in(0, 0), false);
        net.slot(200);
        for (int i = 0; i < 60; i++) {
            CHECK.due("in " + i, net.in(0, i), true);
        }
        CHECK.due("in 60", net.in(0, 60), false);
    }
}
