/** The calls of the face: which arguments are refused, on both sides of each edge, and that these change nothing. */
final class EdgeCallsTest {
    private static final Check CHECK = new Check("EdgeCallsTest");
    private static final int LEAST = Integer.MIN_VALUE;
    private static final int MOST = Integer.MAX_VALUE;

    public static void main(String[] args) {
        slotsOneToTwoHundred();
        messagesThatThereAre();
        whatsOfSent();
        whatsOfReceived();
        packetsOfAMessage();
        theLatestSixtyFour();
        whatsOfHost();
        prioritiesOfQueue();
        whatsOfPacket();
        whatsOfTotal();
        refusedCallsChangeNothing();
        questionsChangeNothing();
        CHECK.end();
    }

    /** "IllegalArgumentException: n is not 1 .. 200." */
    private static void slotsOneToTwoHundred() {
        GrantNet net = new GrantNet();
        for (int n : new int[] {0, -1, 201, LEAST, MOST}) {
            CHECK.slotThrows(net, n);
        }
        CHECK.due("slot(1)", net.slot(1), 1);
        CHECK.due("slot(2)", net.slot(2), 3);
        CHECK.slotThrows(net, 0);
        CHECK.slotThrows(net, 201);
        CHECK.due("slot(200)", net.slot(200), 203);
        CHECK.due("slot(199)", net.slot(199), 402);
    }

    /** "NONE if there is none such": the numbers of the messages that have begun, up to 47. */
    private static void messagesThatThereAre() {
        GrantNet net = new GrantNet();
        asked(net, 0, false);
        net.message(0, 1, 1, 0);
        asked(net, 0, true);
        asked(net, 1, false);
        for (int m = 1; m < 48; m++) {
            net.message(0, 1, 1, 0);
        }
        asked(net, 47, true);
        for (int m : new int[] {-1, 48, LEAST, MOST}) {
            asked(net, m, false);
        }
    }

    private static void asked(GrantNet net, int m, boolean exists) {
        CHECK.due("sent of " + m, net.sent(m, 2), exists ? 1 : -1);
        CHECK.due("received of " + m, net.received(m, 0), exists ? 0 : -1);
        CHECK.due("in of " + m, net.in(m, 0), false);
    }

    private static void whatsOfSent() {
        GrantNet net = new GrantNet();
        net.message(0, 1, 9, 0);
        net.slot(2);
        CHECK.row("sent", what -> net.sent(0, what), 0, 2, 4, 7, 2, 0, 3, 0);
        for (int what : new int[] {-1, 8, LEAST, MOST}) {
            CHECK.due("sent, what " + what, net.sent(0, what), -1);
        }
    }

    private static void whatsOfReceived() {
        GrantNet net = new GrantNet();
        net.message(0, 1, 9, 0);
        net.slot(3);
        CHECK.row("received", what -> net.received(0, what), 1, 0, 8, 7, 1, 0, 1);
        for (int what : new int[] {-1, 7, LEAST, MOST}) {
            CHECK.due("received, what " + what, net.received(0, what), -1);
        }
        net.slot(20);
        CHECK.row("received, finished", what -> net.received(0, what), 2, 1, 0, 0, 0, 0, 0);
        for (int what : new int[] {-1, 7, LEAST, MOST}) {
            CHECK.due("received, finished, what " + what, net.received(0, what), -1);
        }
    }

    /** "Whether packet i of message m is in (also of a FINISHED one)." */
    private static void packetsOfAMessage() {
        GrantNet net = new GrantNet();
        net.message(0, 1, 3, 0);
        net.message(2, 3, 60, 0);
        net.slot(4);
        CHECK.due("packet 0 of one that is KNOWN", net.in(0, 0), true);
        CHECK.due("packet 1", net.in(0, 1), true);
        CHECK.due("packet 2", net.in(0, 2), false);
        net.slot(150);
        CHECK.due("packet 2 of one that is FINISHED", net.in(0, 2), true);
        CHECK.due("packet 59 of one that is FINISHED", net.in(1, 59), true);
        for (int i : new int[] {-1, 3, 31, 32, 60, 63, 64, 65, 66, -62, -64, LEAST, MOST}) {
            CHECK.due("packet " + i + " of three", net.in(0, i), false);
        }
        for (int i : new int[] {-1, 60, 61, 63, 64, 123, LEAST, MOST}) {
            CHECK.due("packet " + i + " of sixty", net.in(1, i), false);
        }
    }

    /**
     * "of the latest 64 (one executed again stands there again)": twelve messages of one packet, whose DONEs are all
     * lost, are executed by turns, again at each of their tries.
     */
    private static void theLatestSixtyFour() {
        GrantNet net = new GrantNet();
        net.lose(1, 100);
        for (int m = 0; m < 12; m++) {
            net.message(0, 1, 1, 1);
        }
        net.slot(200);
        // Five times twelve so far, and the sixth time from slot 202 on, one in each slot.
        CHECK.due("in slot 200", net.host(1, 5), 60);
        net.slot(3);
        for (int all = 62; all <= 67; all++) {
            CHECK.due("in all", net.host(1, 5), all);
            CHECK.due("the latest of " + all, net.finished(1, 0), (all - 1) % 12);
            CHECK.due("the 62nd latest of " + all, net.finished(1, 61), (all - 62) % 12);
            CHECK.due("the 63rd latest of " + all, net.finished(1, 62), all >= 63 ? (all - 63) % 12 : -1);
            CHECK.due("the 64th latest of " + all, net.finished(1, 63), all >= 64 ? (all - 64) % 12 : -1);
            CHECK.due("no 65th of " + all, net.finished(1, 64), -1);
            CHECK.due("no 66th of " + all, net.finished(1, 65), -1);
            net.slot(1);
        }
        for (int k : new int[] {-1, -64, 128, LEAST, MOST}) {
            CHECK.due("finished " + k, net.finished(1, k), -1);
        }
        CHECK.due("none at another host", net.finished(0, 0), -1);
    }

    private static void whatsOfHost() {
        GrantNet net = new GrantNet();
        net.message(0, 1, 9, 0);
        net.slot(3);
        CHECK.row("host 0", what -> net.host(0, what), 0, 0, 9, 9, 3, 0);
        CHECK.row("host 1", what -> net.host(1, what), 6, 0, 0, 0, 1, 0);
        for (int what : new int[] {-1, 6, LEAST, MOST}) {
            CHECK.due("host, what " + what, net.host(0, what), -1);
        }
        net.slot(20);
        CHECK.due("granted and not in, of a finished one", net.host(1, 0), 0);
        CHECK.due("finished in all", net.host(1, 5), 1);
    }

    private static void prioritiesOfQueue() {
        GrantNet net = new GrantNet();
        net.message(0, 3, 9, 0);
        net.message(1, 3, 9, 0);
        net.slot(2);
        CHECK.row("queue", p -> net.queue(11, p), 0, 1, 0, 0);
        for (int p : new int[] {-1, 4, LEAST, MOST}) {
            CHECK.due("queue, priority " + p, net.queue(11, p), -1);
        }
    }

    private static void whatsOfPacket() {
        GrantNet net = new GrantNet();
        net.message(0, 1, 9, 0);
        net.message(2, 3, 9, 0);
        net.slot(2);
        CHECK.row("packet", what -> net.packet(2, what), 0, 1, 1, 1);
        for (int what : new int[] {-1, 4, LEAST, MOST}) {
            CHECK.due("packet, what " + what, net.packet(2, what), -1);
            CHECK.due("packet of an empty link, what " + what, net.packet(4, what), -1);
        }
        CHECK.row("packet of an empty link", what -> net.packet(4, what), -1, -1, -1, -1);
    }

    private static void whatsOfTotal() {
        GrantNet net = new GrantNet();
        net.message(0, 3, 4, 0);
        net.message(1, 3, 4, 0);
        net.lose(0, 1);
        net.slot(2);
        CHECK.row("total", net::total, 0, 1, 3);
        for (int what : new int[] {-1, 3, LEAST, MOST}) {
            CHECK.due("total, what " + what, net.total(what), -1);
        }
    }

    private static GrantNet begun() {
        GrantNet net = new GrantNet();
        net.message(0, 5, 20, 0);
        net.message(1, 5, 9, 1);
        net.message(4, 2, 30, 0);
        net.lose(5, 2);
        return net;
    }

    private static void refusedCallsChangeNothing() {
        GrantNet net = begun();
        GrantNet twin = begun();
        int clock = 0;
        int[][] wrong = {{-1, 0, 3, 0}, {8, 0, 3, 0}, {0, -1, 3, 0}, {0, 8, 3, 0}, {5, 5, 3, 0}, {0, 1, 0, 0},
            {0, 1, 61, 0}, {0, 1, 3, -1}, {0, 1, 3, 2}};
        for (int[] w : wrong) {
            CHECK.due("a wrong message", net.message(w[0], w[1], w[2], w[3]), -1);
            CHECK.slotThrows(net, w[2] == 3 ? 0 : 201);
            CHECK.due("a wrong link", net.lose(w[2] == 3 ? -1 : 24, 5), false);
            CHECK.due("a wrong count", net.lose(5, w[2] == 3 ? -1 : 101), false);
            CHECK.due("a wrong spine", net.spine(w[2] == 3 ? -1 : 2, false), false);
            clock += 3;
            CHECK.due("clock", net.slot(3), clock);
            twin.slot(3);
        }
        Snapshot.of(net, 3).sameAs(Snapshot.of(twin, 3), CHECK, "refused calls");
    }

    private static void questionsChangeNothing() {
        GrantNet net = begun();
        GrantNet twin = begun();
        for (int i = 0; i < 10; i++) {
            for (int m = -1; m < 3; m++) {
                net.sent(m, i);
                net.received(m, i);
            }
            net.in(i % 3, i);
            net.finished(5, i - 1);
            net.chosen(5, i - 1);
            net.host(5, i - 1);
            net.queue(15, i - 1);
            net.packet(i, 1);
            net.total(i - 1);
            net.slot(4);
            twin.slot(4);
        }
        Snapshot.of(net, 3).sameAs(Snapshot.of(twin, 3), CHECK, "questions");
    }
}
