/** Promise 14: total. */
final class P14TotalTest {
    private static final Check CHECK = new Check("P14TotalTest");

    public static void main(String[] args) {
        GrantNet net = new GrantNet();
        net.message(0, 3, 40, 0);
        net.message(1, 3, 20, 0);
        net.message(2, 3, 30, 0);
        net.slot(1);
        total(net, "three on links", 0, 0, 3);
        net.slot(1);
        total(net, "three on links, two in a queue, one on the link behind it", 0, 0, 6);
        net.lose(11, 1);
        net.slot(1);
        // Packet 0 of message 0 came, that of message 1 is lost; a GRANT goes.
        total(net, "one lost", 0, 1, 3 + 4 + 1);
        net.slot(2);
        // In slot 5 nine came to a queue of eight; on links are packets to and of host 3, and one that was granted.
        total(net, "one dropped", 1, 1, 7 + 1 + 1 + 1);
        for (int what : new int[] {-1, 3, Integer.MAX_VALUE, Integer.MIN_VALUE}) {
            CHECK.due("total " + what, net.total(what), -1);
        }
        allDropped();
        CHECK.end();
    }

    private static void total(GrantNet net, String when, int... wants) {
        CHECK.row("total, " + when + ",", net::total, wants);
    }

    private static void allDropped() {
        GrantNet net = new GrantNet();
        net.spine(0, false);
        net.spine(1, false);
        net.message(0, 4, 3, 0);
        net.slot(10);
        total(net, "all dropped", 3, 0, 0);
    }
}
