/** The document's Terms: which hosts, leaves, spines, links and queues there are, and where each link goes. */
final class EdgePlacesTest {
    private static final Check CHECK = new Check("EdgePlacesTest");

    public static void main(String[] args) {
        everyWay();
        hostsEndAtSeven();
        linksEndAtTwentyThree();
        queuesBeginAtLinkEight();
        spinesAreTwo();
        aLinkHasOnePacket();
        CHECK.end();
    }

    /** "LEAF switch 0 has hosts 0 .. 3, LEAF 1 hosts 4 .. 7": each pair of hosts, by each of the spines. */
    private static void everyWay() {
        for (int from = 0; from < 8; from++) {
            for (int to = 0; to < 8; to++) {
                if (from != to) {
                    follow(from, to, 0);
                    follow(from, to, 1);
                }
            }
        }
    }

    /** One packet goes there and its DONE comes back: in each slot it is on the link that is due, and alone. */
    private static void follow(int from, int to, int spine) {
        GrantNet net = new GrantNet();
        net.spine(1 - spine, false);
        net.message(from, to, 1, 0);
        String name = "from " + from + " to " + to + " by spine " + spine;
        int[] way = way(from, to, spine);
        for (int i = 0; i < way.length; i++) {
            net.slot(1);
            CHECK.due(name + ", kind on link " + way[i], net.packet(way[i], 0), i < way.length / 2 ? 0 : 3);
            CHECK.due(name + ", under way", net.total(2), 1);
        }
        net.slot(1);
        CHECK.due(name + ", delivered in", net.sent(0, 7), way.length + 1);
        CHECK.due(name + ", under way at the end", net.total(2), 0);
    }

    /** "LINKS: 0 .. 7 from host k to its leaf; 8 + 6 * l + p from leaf l ..; 20 + 2 * s + l from spine s to leaf l". */
    private static int[] way(int from, int to, int spine) {
        int a = from / 4;
        int b = to / 4;
        int toSender = 8 + 6 * a + from % 4;
        int toReceiver = 8 + 6 * b + to % 4;
        if (a == b) {
            return new int[] {from, toReceiver, to, toSender};
        }
        return new int[] {from, 8 + 6 * a + 4 + spine, 20 + 2 * spine + b, toReceiver,
            to, 8 + 6 * b + 4 + spine, 20 + 2 * spine + a, toSender};
    }

    /** "HOSTS are 0 .. 7". */
    private static void hostsEndAtSeven() {
        GrantNet net = new GrantNet();
        CHECK.due("message from host 7 to host 0", net.message(7, 0, 1, 0), 0);
        CHECK.due("message from host 0 to host 7", net.message(0, 7, 1, 0), 1);
        net.slot(20);
        CHECK.due("finished at host 0", net.finished(0, 0), 0);
        CHECK.due("finished at host 7", net.finished(7, 0), 1);
        CHECK.due("sent by host 0", net.host(0, 4), 2);
        CHECK.due("sent by host 7", net.host(7, 4), 2);
        for (int h : new int[] {-1, 8, Integer.MIN_VALUE, Integer.MAX_VALUE}) {
            CHECK.due("message from " + h, net.message(h, 1, 1, 0), -1);
            CHECK.due("message to " + h, net.message(1, h, 1, 0), -1);
            CHECK.due("finished at " + h, net.finished(h, 0), -1);
            CHECK.due("chosen at " + h, net.chosen(h, 0), -1);
            CHECK.due("host " + h, net.host(h, 4), -1);
        }
    }

    /** The first link is 0, the last one 23: spine 1 to leaf 1. */
    private static void linksEndAtTwentyThree() {
        GrantNet net = new GrantNet();
        net.spine(0, false);
        net.message(0, 4, 2, 0);
        net.slot(1);
        CHECK.due("on link 0", net.packet(0, 2), 0);
        net.slot(2);
        CHECK.due("on link 23", net.packet(23, 2), 0);
        CHECK.due("lose on link 23", net.lose(23, 1), true);
        net.slot(1);
        CHECK.due("lost on link 23", net.total(1), 1);
        for (int link : new int[] {-1, 24, Integer.MIN_VALUE, Integer.MAX_VALUE}) {
            CHECK.due("lose on " + link, net.lose(link, 1), false);
            CHECK.due("packet on " + link, net.packet(link, 0), -1);
            CHECK.due("queue ahead of " + link, net.queue(link, 0), -1);
        }
    }

    /** "Each link 8 .. 23 has four QUEUES ahead of it, for the priorities 0 (the first) to 3". */
    private static void queuesBeginAtLinkEight() {
        GrantNet net = new GrantNet();
        for (int link = 0; link < 24; link++) {
            for (int priority = -1; priority <= 4; priority++) {
                boolean exists = link >= 8 && priority >= 0 && priority <= 3;
                CHECK.due("queue " + link + " " + priority, net.queue(link, priority), exists ? 0 : -1);
            }
        }
    }

    /** "SPINE switches are 0 and 1". */
    private static void spinesAreTwo() {
        GrantNet net = new GrantNet();
        for (int s : new int[] {-1, 2, Integer.MIN_VALUE, Integer.MAX_VALUE}) {
            CHECK.due("spine " + s, net.spine(s, false), false);
        }
        net.message(0, 4, 2, 0);
        net.slot(3);
        CHECK.due("spine 0 is on still", net.packet(21, 2), 0);
        CHECK.due("spine 1 is on still", net.packet(13, 2), 1);
        CHECK.due("spine 0", net.spine(0, false), true);
        CHECK.due("spine 1", net.spine(1, false), true);
    }

    /** "A link has at most one packet": three come for one link, one of them goes in each slot. */
    private static void aLinkHasOnePacket() {
        GrantNet net = new GrantNet();
        for (int h = 0; h < 3; h++) {
            net.message(h, 3, 1, 0);
        }
        net.slot(1);
        for (int i = 0; i < 3; i++) {
            net.slot(1);
            CHECK.due("message on the link, slot " + (i + 2), net.packet(11, 1), i);
            CHECK.due("those that wait, slot " + (i + 2), net.queue(11, 1), 2 - i);
        }
        net.slot(1);
        CHECK.due("the link is empty then", net.packet(11, 0), -1);
    }
}
