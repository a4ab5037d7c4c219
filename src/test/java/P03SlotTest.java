/** Promise 3: slot, with the order of A, B and C in it. */
final class P03SlotTest {
    private static final Check CHECK = new Check("P03SlotTest");

    public static void main(String[] args) {
        wrongCountsThrow();
        manySlotsAreSingleSlots();
        aPacketGoesOneLinkASlot();
        aPacketCrossesASpine();
        theShortestGoesFirst();
        CHECK.end();
    }

    private static void wrongCountsThrow() {
        GrantNet net = new GrantNet();
        net.message(0, 1, 3, 0);
        for (int n : new int[] {0, -1, 201, Integer.MIN_VALUE, Integer.MAX_VALUE}) {
            CHECK.slotThrows(net, n);
        }
        CHECK.due("nothing went", net.host(0, 4), 0);
        CHECK.due("slot(1)", net.slot(1), 1);
        CHECK.due("slot(200)", net.slot(200), 201);
        CHECK.slotThrows(net, 0);
        CHECK.due("the clock stood still", net.slot(2), 203);
    }

    private static void manySlotsAreSingleSlots() {
        GrantNet one = new GrantNet();
        GrantNet other = new GrantNet();
        for (int h = 1; h < 8; h++) {
            one.message(h, 0, 7 * h, h % 2);
            other.message(h, 0, 7 * h, h % 2);
        }
        CHECK.due("at once", one.slot(120), 120);
        for (int i = 1; i <= 120; i++) {
            CHECK.due("one by one", other.slot(1), i);
        }
        for (int m = 0; m < 7; m++) {
            for (int what = 0; what < 8; what++) {
                CHECK.due("sent", one.sent(m, what), other.sent(m, what));
                CHECK.due("received", one.received(m, what), other.received(m, what));
            }
        }
        CHECK.due("dropped", one.total(0), other.total(0));
    }

    private static void aPacketGoesOneLinkASlot() {
        GrantNet net = new GrantNet();
        net.message(2, 3, 1, 0);
        int[] links = {2, 11, 3, 10};
        int[] kinds = {0, 0, 3, 3};
        for (int i = 0; i < links.length; i++) {
            net.slot(1);
            CHECK.due("kind on link " + links[i], net.packet(links[i], 0), kinds[i]);
            CHECK.due("under way", net.total(2), 1);
        }
        net.slot(1);
        CHECK.due("all done", net.total(2), 0);
        CHECK.due("delivered in", net.sent(0, 7), 5);
    }

    private static void aPacketCrossesASpine() {
        GrantNet net = new GrantNet();
        net.message(6, 1, 1, 0);
        // There by spine 0, as leaf 1 chooses first, and back by spine 0, as leaf 0 does.
        int[] links = {6, 18, 20, 9, 1, 12, 21, 16};
        for (int link : links) {
            net.slot(1);
            CHECK.due("on link " + link, net.packet(link, 1), 0);
            CHECK.due("under way", net.total(2), 1);
        }
        net.slot(1);
        CHECK.due("delivered in", net.sent(0, 7), 9);
    }

    private static void theShortestGoesFirst() {
        GrantNet net = new GrantNet();
        net.message(0, 1, 3, 0);
        net.message(0, 2, 2, 0);
        net.message(0, 3, 2, 0);
        // The two of length 2 first, of these the lesser number; then that of length 3.
        int[] messages = {1, 1, 2, 2, 0, 0, 0};
        int[] counts = {0, 1, 0, 1, 0, 1, 2};
        for (int i = 0; i < messages.length; i++) {
            net.slot(1);
            CHECK.due("message in slot " + (i + 1), net.packet(0, 1), messages[i]);
            CHECK.due("count in slot " + (i + 1), net.packet(0, 2), counts[i]);
        }
        net.slot(1);
        CHECK.due("nothing more", net.packet(0, 0), -1);
    }
}
