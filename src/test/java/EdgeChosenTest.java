/** C1 of a slot: the CHOSEN, their TARGET and their GRANTs. */
final class EdgeChosenTest {
    private static final Check CHECK = new Check("EdgeChosenTest");

    public static void main(String[] args) {
        fewerIfThereAreFewer();
        theFourthIsNotChosen();
        ofTwoAlikeTheLesserArrival();
        onePacketFewerIsAhead();
        targetsOfOnePacket();
        targetsGrowUpToTheLength();
        noGrantUpToFour();
        theRestIsOneAndTheOrder();
        theLatestChoice();
        CHECK.end();
    }

    private static void chosen(GrantNet net, String when, int... wants) {
        CHECK.row("chosen " + when + ",", k -> net.chosen(3, k), wants);
    }

    /** Messages to host 3 from the hosts told, with these lengths; of each packet 0 goes in slot 1, and no other. */
    private static GrantNet onePacketEach(int[] hosts, int[] lengths) {
        GrantNet net = new GrantNet();
        for (int i = 0; i < hosts.length; i++) {
            net.message(hosts[i], 3, lengths[i], 0);
        }
        net.slot(1);
        for (int h : hosts) {
            net.lose(h, 100);
        }
        return net;
    }

    /** "the three with the fewest packets that are not in .., fewer if there are fewer". */
    private static void fewerIfThereAreFewer() {
        GrantNet net = onePacketEach(new int[] {0, 1, 2}, new int[] {10, 9, 8});
        chosen(net, "in slot 1", -1, -1, -1);
        net.slot(1);
        chosen(net, "in slot 2", -1, -1, -1);
        net.slot(1);
        chosen(net, "in slot 3", 0, -1, -1);
        net.slot(1);
        chosen(net, "in slot 4", 1, 0, -1);
        net.slot(1);
        chosen(net, "in slot 5", 2, 1, 0);
        for (int k : new int[] {-1, 3, Integer.MIN_VALUE, Integer.MAX_VALUE}) {
            CHECK.due("chosen " + k, net.chosen(3, k), -1);
        }
    }

    private static void theFourthIsNotChosen() {
        GrantNet net = onePacketEach(new int[] {0, 1, 2, 4, 5}, new int[] {10, 9, 8, 11, 12});
        net.slot(8);
        CHECK.due("the fifth is known", net.received(4, 0), 1);
        chosen(net, "of five", 2, 1, 0);
        CHECK.due("nothing was granted to the fourth", net.received(3, 3), 4);
        CHECK.due("nor to the fifth", net.received(4, 3), 4);
        CHECK.due("three GRANTs went", net.host(3, 4), 3);
    }

    /** "(of two alike that with the lesser ARRIVAL)": it is not their numbers. */
    private static void ofTwoAlikeTheLesserArrival() {
        GrantNet net = onePacketEach(new int[] {4, 2, 1, 0}, new int[] {10, 10, 10, 10});
        net.slot(6);
        CHECK.row("arrival of", m -> net.received(m, 6), 4, 3, 2, 1);
        chosen(net, "of four alike", 3, 2, 1);
        CHECK.due("the fourth got nothing", net.received(0, 3), 4);
    }

    private static void onePacketFewerIsAhead() {
        GrantNet net = onePacketEach(new int[] {4, 2, 1, 0}, new int[] {9, 10, 10, 10});
        net.slot(4);
        chosen(net, "ahead of the last", 3, 2, 1);
        net.slot(1);
        CHECK.due("the last to arrive", net.received(0, 6), 4);
        chosen(net, "with one that lacks one packet fewer", 0, 3, 2);
        CHECK.due("a GRANT for it", net.packet(3, 2), 4 * 7 + 1);
        CHECK.due("what was granted before stays", net.received(1, 3), 7);
    }

    /** "the TARGET is how many packets are in and 6, at most LENGTH". */
    private static void targetsOfOnePacket() {
        int[][] targets = {{5, 5}, {6, 6}, {7, 7}, {8, 7}, {60, 7}};
        for (int[] t : targets) {
            GrantNet net = onePacketEach(new int[] {0}, new int[] {t[0]});
            net.slot(2);
            CHECK.due("a GRANT, length " + t[0], net.packet(3, 0), 1);
            CHECK.due("its count", net.packet(3, 2), 4 * t[1] + 1);
            CHECK.due("granted", net.received(0, 3), t[1]);
            net.slot(1);
            CHECK.due("no GRANT more", net.packet(3, 0), -1);
            CHECK.due("none due", net.host(3, 1), 0);
        }
    }

    private static void targetsGrowUpToTheLength() {
        GrantNet net = new GrantNet();
        net.message(0, 3, 10, 0);
        net.slot(2);
        int[] targets = {7, 8, 9, 10};
        for (int t : targets) {
            net.slot(1);
            CHECK.due("a GRANT", net.packet(3, 2), 4 * t + 1);
        }
        for (int slot = 7; slot < 12; slot++) {
            net.slot(1);
            CHECK.due("no GRANT beyond the length, slot " + slot, net.packet(3, 0), -1);
            CHECK.due("granted", net.received(0, 3), 10);
        }
        net.slot(1);
        CHECK.due("the DONE", net.packet(3, 0), 3);
        GrantNet longest = new GrantNet();
        longest.message(0, 3, 60, 0);
        longest.slot(100);
        CHECK.due("54 GRANTs and a DONE", longest.host(3, 4), 55);
        CHECK.due("all permitted", longest.sent(0, 2), 60);
    }

    /** "if that is above GRANTED": up to a length of 4 all is granted at first. */
    private static void noGrantUpToFour() {
        int[][] answers = {{1, 1}, {2, 1}, {3, 1}, {4, 1}, {5, 2}, {6, 2}, {7, 2}, {8, 3}};
        for (int[] a : answers) {
            GrantNet net = new GrantNet();
            net.message(0, 3, a[0], 0);
            net.slot(40);
            CHECK.due("answers to a length of " + a[0], net.host(3, 4), a[1]);
            CHECK.due("delivered", net.sent(0, 0), 1);
        }
    }

    /** "a GRANT is due, with the count 4 * TARGET + 1 + k": by the order of the CHOSEN. */
    private static void theRestIsOneAndTheOrder() {
        GrantNet net = onePacketEach(new int[] {0, 1, 2}, new int[] {20, 30, 40});
        net.slot(1);
        for (int k = 0; k < 3; k++) {
            net.slot(1);
            CHECK.due("message of the GRANT", net.packet(3, 1), k);
            CHECK.due("count of the GRANT", net.packet(3, 2), 4 * 7 + 1 + k);
        }
        net.slot(2);
        CHECK.row("level of", m -> net.sent(m, 6), 1, 2, 3);
        CHECK.row("permitted of", m -> net.sent(m, 2), 7, 7, 7);
    }

    private static void theLatestChoice() {
        GrantNet net = new GrantNet();
        net.message(0, 3, 2, 0);
        net.message(1, 3, 3, 0);
        net.slot(4);
        chosen(net, "in slot 4", 0, 1, -1);
        net.slot(1);
        CHECK.due("message 0 is finished", net.received(0, 0), 2);
        chosen(net, "in slot 5", 1, -1, -1);
        net.slot(30);
        chosen(net, "at the end", -1, -1, -1);
    }
}
