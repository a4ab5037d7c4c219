/** C3 of a slot: which packet a host sends, and with which priority. */
final class EdgeSendTest {
    private static final Check CHECK = new Check("EdgeSendTest");

    public static void main(String[] args) {
        theLeastLeft();
        ofTwoAlikeTheLesserNumber();
        thoseWantedAreLeftToo();
        theLeastWantedAheadOfNext();
        aDeliveredOneSendsNoMore();
        packetThreeAndPacketFour();
        aPacketSentAgain();
        lengthsAtTheCutoffs();
        theCutoffsOfTheSlot();
        onePacketASlot();
        CHECK.end();
    }

    /** What host 0 sends in the next slots, each told as its message and its count. */
    private static void sends(GrantNet net, String when, int[]... packets) {
        for (int[] p : packets) {
            net.slot(1);
            CHECK.due(when + ", message", net.packet(0, 1), p[0]);
            CHECK.due(when + ", count", net.packet(0, 2), p[1]);
        }
    }

    /** "that with the least number of packets LEFT": of 3 and 2 the second; what has gone is not LEFT. */
    private static void theLeastLeft() {
        GrantNet net = new GrantNet();
        net.message(0, 1, 3, 0);
        net.message(0, 2, 2, 0);
        net.slot(2);
        net.message(0, 3, 3, 0);
        // Of message 0 three are LEFT, of message 2 too; then a message comes that has as many as message 0 has then.
        sends(net, "by what is LEFT", new int[] {0, 0});
        net.message(0, 3, 1, 0);
        sends(net, "by what is LEFT", new int[] {3, 0}, new int[] {0, 1}, new int[] {0, 2}, new int[] {2, 0},
            new int[] {2, 1}, new int[] {2, 2}, new int[] {-1, -1});
    }

    /** "of two alike that with the lesser number". */
    private static void ofTwoAlikeTheLesserNumber() {
        GrantNet net = new GrantNet();
        net.message(0, 3, 2, 0);
        net.slot(1);
        net.message(0, 1, 1, 0);
        net.message(0, 2, 1, 0);
        sends(net, "by numbers", new int[] {0, 1}, new int[] {1, 0}, new int[] {2, 0}, new int[] {-1, -1});
    }

    /**
     * "(LENGTH - NEXT, and those WANTED)": in slot 40 an ASK permits the last packets of a message of five or six, and
     * packet 0 of a message of one, which was lost, is WANTED, as nothing was heard of it.
     */
    private static void thoseWantedAreLeftToo() {
        sends(inSlotThirtyNine(5, true), "one and one LEFT", new int[] {0, 4}, new int[] {1, 0});
        sends(inSlotThirtyNine(5, false), "one and one LEFT", new int[] {0, 0}, new int[] {1, 4});
        sends(inSlotThirtyNine(6, true), "two and one LEFT", new int[] {1, 0}, new int[] {0, 4}, new int[] {0, 5});
    }

    private static GrantNet inSlotThirtyNine(int length, boolean longOneFirst) {
        GrantNet net = new GrantNet();
        if (longOneFirst) {
            net.message(0, 1, length, 0);
        }
        net.message(0, 2, 1, 0);
        if (!longOneFirst) {
            net.message(0, 1, length, 0);
        }
        net.lose(0, 1);
        net.lose(1, 2);
        net.slot(39);
        return net;
    }

    /**
     * "its least packet WANTED (which is so no more), else NEXT": packet 0 is WANTED in slot 40, when a shorter message
     * goes, and packet 2 by an ASK in slot 41, which permits packet 4 too.
     */
    private static void theLeastWantedAheadOfNext() {
        GrantNet net = new GrantNet();
        net.message(0, 2, 1, 0);
        net.message(0, 2, 1, 0);
        net.message(0, 1, 5, 0);
        net.lose(1, 2);
        net.slot(4);
        net.lose(0, 1);
        net.slot(35);
        net.message(0, 2, 1, 0);
        sends(net, "in slot 40", new int[] {3, 0});
        CHECK.due("LEFT in slot 40", net.sent(2, 3), 2);
        sends(net, "in slot 41", new int[] {2, 0});
        CHECK.due("LEFT in slot 41", net.sent(2, 3), 2);
        sends(net, "in slot 42", new int[] {2, 2});
        CHECK.due("LEFT in slot 42", net.sent(2, 3), 1);
        sends(net, "in slot 43", new int[] {2, 4}, new int[] {-1, -1});
        CHECK.due("LEFT at the end", net.sent(2, 3), 0);
        CHECK.due("NEXT at the end", net.sent(2, 1), 5);
    }

    /**
     * "DATA of an OPEN message": message 5 is finished in slot 39; in slot 40 its packet 0 is WANTED, but the host has a
     * DONE to send for another one; in slot 41 its own DONE has come.
     */
    private static void aDeliveredOneSendsNoMore() {
        GrantNet net = new GrantNet();
        for (int i = 0; i < 5; i++) {
            net.message(0, 2, 4, 0);
        }
        net.message(0, 1, 4, 0);
        net.slot(10);
        for (int i = 0; i < 4; i++) {
            net.message(0, 2, 3, 0);
        }
        net.message(0, 2, 1, 0);
        net.slot(27);
        CHECK.due("packet 3 goes in slot 37", net.packet(0, 1) == 5 && net.packet(0, 2) == 3, true);
        net.message(3, 0, 1, 0);
        net.slot(3);
        CHECK.due("a DONE goes in slot 40", net.packet(0, 0), 3);
        CHECK.due("packet 0 is WANTED", net.sent(5, 3), 1);
        net.slot(1);
        CHECK.due("delivered", net.sent(5, 7), 41);
        CHECK.due("nothing goes", net.packet(0, 0), -1);
        net.slot(5);
        CHECK.due("nor later on", net.host(0, 4), 20 + 4 + 13 + 1);
    }

    private static void priorities(GrantNet net, String when, int... wants) {
        for (int want : wants) {
            net.slot(1);
            CHECK.due(when + ", priority of packet " + net.packet(0, 2), net.packet(0, 3), want);
        }
    }

    /** "The priority of packets below 4 ..; that of others is LEVEL." */
    private static void packetThreeAndPacketFour() {
        GrantNet net = new GrantNet();
        for (int i = 0; i < 3; i++) {
            net.message(0, 2, 1, 0);
        }
        net.message(0, 1, 10, 0);
        // The cutoffs are 1 and 1. The first GRANT comes in time for packet 4, with the LEVEL 1.
        priorities(net, "three of length 1, then ten packets", 1, 1, 1, 3, 3, 3, 3, 1, 1, 1, 1, 1, 1, -1);
    }

    /** The same holds for a packet that goes again: packet 3 by the cutoffs, which are 1 and 5, packet 4 by the LEVEL. */
    private static void aPacketSentAgain() {
        int[][] lostAskedPriority = {{3, 25, 2}, {4, 24, 1}};
        for (int[] l : lostAskedPriority) {
            GrantNet net = new GrantNet();
            net.message(0, 2, 1, 0);
            net.message(0, 1, 5, 0);
            // Packet i goes in slot 2 + i; an ASK comes back 17 slots after the last one that came.
            net.slot(1 + l[0]);
            net.lose(0, 1);
            net.slot(l[1] - 1 - l[0]);
            CHECK.due("packet that goes again", net.packet(0, 2), l[0]);
            CHECK.due("its priority", net.packet(0, 3), l[2]);
            net.slot(2);
            CHECK.due("it came", net.received(1, 0), 2);
        }
    }

    /** "1 if LENGTH is not above the host's first CUTOFF, 2 if not above the second one, else 3". */
    private static void lengthsAtTheCutoffs() {
        int[] priorities = {1, 1, 2, 2, 2, 3};
        for (int length = 1; length <= 6; length++) {
            GrantNet net = new GrantNet();
            for (int other : new int[] {2, 2, 5, 5, 5, 1, 9}) {
                net.message(0, 1, other, 0);
            }
            net.slot(60);
            // 1, 2, 2, 5, 5, 5, 9 and one of 1 .. 6 more: eight, at the places 2 and 5 are 2 and 5.
            int m = net.message(0, 2, length, 0);
            CHECK.due("first cutoff", net.host(0, 2), 2);
            CHECK.due("second cutoff", net.host(0, 3), 5);
            net.slot(1);
            CHECK.due("message", net.packet(0, 1), m);
            CHECK.due("priority of length " + length, net.packet(0, 3), priorities[length - 1]);
        }
    }

    /** The cutoffs are those of the slot in which a packet goes, not of that in which its message began. */
    private static void theCutoffsOfTheSlot() {
        GrantNet net = new GrantNet();
        net.message(0, 1, 4, 0);
        priorities(net, "alone", 1);
        net.message(0, 2, 1, 0);
        priorities(net, "the one of length 1", 1);
        priorities(net, "with the cutoffs 1 and 4", 2);
        net.message(0, 2, 1, 0);
        net.message(0, 2, 1, 0);
        priorities(net, "two more of length 1", 1, 1);
        priorities(net, "with the cutoffs 1 and 1", 3, 3, -1);
    }

    /** "it sends one packet, if it can: its link gets it". */
    private static void onePacketASlot() {
        GrantNet net = new GrantNet();
        for (int i = 0; i < 3; i++) {
            net.message(0, 1 + i, 2, 0);
        }
        for (int i = 1; i <= 6; i++) {
            net.slot(1);
            CHECK.due("sent in slot " + i, net.host(0, 4), i);
        }
        net.slot(1);
        CHECK.due("nothing more", net.host(0, 4), 6);
    }
}
