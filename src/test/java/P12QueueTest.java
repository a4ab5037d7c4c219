/** Promise 12: queue. */
final class P12QueueTest {
    private static final Check CHECK = new Check("P12QueueTest");

    public static void main(String[] args) {
        wrongInputs();
        threeSendersFillAQueue();
        theFirstPriorityGoesFirst();
        CHECK.end();
    }

    private static void wrongInputs() {
        GrantNet net = new GrantNet();
        int[][] wrong = {{-1, 0}, {0, 0}, {7, 0}, {24, 0}, {8, -1}, {8, 4}, {Integer.MAX_VALUE, 0},
            {Integer.MIN_VALUE, 0}, {8, Integer.MAX_VALUE}, {8, Integer.MIN_VALUE}};
        for (int[] w : wrong) {
            CHECK.due("queue of none", net.queue(w[0], w[1]), -1);
        }
        CHECK.due("the first", net.queue(8, 0), 0);
        CHECK.due("the last", net.queue(23, 3), 0);
    }

    private static void threeSendersFillAQueue() {
        GrantNet net = new GrantNet();
        net.message(0, 3, 40, 0);
        net.message(1, 3, 20, 0);
        net.message(2, 3, 30, 0);
        int[] waiting = {0, 2, 4, 6, 7};
        for (int i = 0; i < waiting.length; i++) {
            net.slot(1);
            CHECK.due("waiting in slot " + (i + 1), net.queue(11, 1), waiting[i]);
            CHECK.due("of another priority", net.queue(11, 2), 0);
        }
        CHECK.due("the ninth was dropped", net.total(0), 1);
        CHECK.due("by their order", net.packet(11, 1), 0);
        CHECK.due("by their order", net.packet(11, 2), 1);
    }

    private static void theFirstPriorityGoesFirst() {
        GrantNet net = new GrantNet();
        net.message(0, 5, 2, 0);
        net.message(0, 3, 3, 0);
        net.message(0, 3, 4, 0);
        net.message(1, 3, 1, 0);
        // The cutoffs of host 0 are 3 and 4: its messages 0 and 1 have the priority 1, 2 has 2.
        net.slot(6);
        CHECK.due("the last of priority 1 goes", net.packet(11, 3), 1);
        net.message(1, 3, 1, 0);
        net.message(2, 3, 1, 0);
        net.slot(2);
        CHECK.due("message 2 waits", net.queue(11, 2), 1);
        CHECK.due("one of priority 1 waits", net.queue(11, 1), 1);
        CHECK.due("message 4 goes", net.packet(11, 1), 4);
        net.slot(1);
        CHECK.due("message 5 goes", net.packet(11, 1), 5);
        CHECK.due("message 2 waits", net.queue(11, 2), 2);
        net.slot(1);
        CHECK.due("message 2 goes", net.packet(11, 1), 2);
    }
}
