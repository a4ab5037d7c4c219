/** Promise 13: packet. */
final class P13PacketTest {
    private static final Check CHECK = new Check("P13PacketTest");

    public static void main(String[] args) {
        GrantNet net = new GrantNet();
        net.message(4, 5, 1, 0);
        net.slot(50);
        // The lengths 1 and 60 are the cutoffs: the priority is 2.
        net.message(4, 5, 60, 0);
        net.slot(1);
        on(net, "DATA", 4, 0, 1, 0, 2);
        net.slot(1);
        on(net, "DATA", 15, 0, 1, 0, 2);
        on(net, "DATA", 4, 0, 1, 1, 2);
        on(net, "nothing", 5, -1, -1, -1, -1);
        net.slot(1);
        on(net, "GRANT", 5, 1, 1, 4 * 7 + 1, 0);
        net.slot(1);
        on(net, "GRANT", 14, 1, 1, 4 * 7 + 1, 0);
        net.slot(1);
        on(net, "granted DATA, by its level", 4, 0, 1, 4, 1);
        net.lose(4, 100);
        // Packet 4 is in in slot 57: silence until slot 72.
        net.slot(17);
        on(net, "ASK", 5, 2, 1, 64 * 11 + 5, 0);
        wrongInputs(net);
        done();
        CHECK.end();
    }

    private static void on(GrantNet net, String what, int link, int... wants) {
        CHECK.row(what + " on link " + link + ",", w -> net.packet(link, w), wants);
    }

    private static void wrongInputs(GrantNet net) {
        int[][] wrong = {{5, -1}, {5, 4}, {5, Integer.MAX_VALUE}, {5, Integer.MIN_VALUE}, {-1, 0}, {24, 0},
            {Integer.MAX_VALUE, 0}, {Integer.MIN_VALUE, 0}};
        for (int[] w : wrong) {
            CHECK.due("packet of none", net.packet(w[0], w[1]), -1);
        }
    }

    private static void done() {
        GrantNet net = new GrantNet();
        net.message(7, 6, 1, 0);
        net.slot(3);
        on(net, "DONE", 6, 3, 0, net.packet(6, 2), 0);
        CHECK.due("a DONE has a count", net.packet(6, 2) >= 0, true);
    }
}
