import java.util.ArrayDeque;
import java.util.Deque;

/** "What is DUE goes behind the host's row of at most 24; what is more is not sent." */
final class EdgeDueTest {
    private static final Check CHECK = new Check("EdgeDueTest");
    private static final int RECEIVER = 7;

    public static void main(String[] args) {
        twentyFourFit();
        theTwentyFifthIsNotSent();
        aGrantThatFindsNoRoom();
        dueGoesAheadOfData();
        CHECK.end();
    }

    /**
     * Message n of two packets, from host 4 or 5 by turns, begins in time for its packet 0 to come in slot 3 + n; all
     * that comes after it is lost, and so is each ASK on its way. With more than 16 of them ASKs are due faster than
     * they can go: one for message n in each of the slots 18 + n, 34 + n, 50 + n ..
     *
     * @param absent a number whose slot is left out
     * @return how many ASKs found no room
     */
    private static int play(int messages, int absent, int slots) {
        GrantNet net = new GrantNet();
        net.lose(14, 100);
        net.lose(15, 100);
        int[] numbers = new int[messages];
        Deque<Integer> row = new ArrayDeque<>();
        int notSent = 0;
        for (int slot = 1; slot <= slots; slot++) {
            int n = slot - 1;
            if (n < messages && n != absent) {
                numbers[n] = net.message(4 + n % 2, RECEIVER, 2, 0);
            }
            if (n <= messages) {
                net.lose(4 + n % 2, 0);
                net.lose(5 - n % 2, n < messages ? 1 : 100);
            } else if (n == messages + 1) {
                net.lose(5 - n % 2, 100);
            }
            net.slot(1);
            for (int m = 0; m < messages; m++) {
                boolean isDue = m != absent && slot >= 18 + m && (slot - 18 - m) % 16 == 0;
                if (isDue && row.size() < 24) {
                    row.addLast(numbers[m]);
                } else if (isDue) {
                    notSent++;
                }
            }
            int goes = row.isEmpty() ? -1 : row.removeFirst();
            CHECK.due("message of the ASK that goes in slot " + slot, net.packet(RECEIVER, 1), goes);
            CHECK.due("how many are due in slot " + slot, net.host(RECEIVER, 1), row.size());
        }
        CHECK.due("none was finished", net.host(RECEIVER, 5), 0);
        return notSent;
    }

    /** In slot 53 there are 21, and three ASKs are due: all of the 24 go. */
    private static void twentyFourFit() {
        CHECK.due("not sent", play(36, 32, 53), 0);
    }

    /** In slot 53 there are 22, and three ASKs are due: the last of them is not sent. */
    private static void theTwentyFifthIsNotSent() {
        CHECK.due("not sent", play(36, -1, 53), 1);
        CHECK.due("not sent", play(38, -1, 80) > 10, true);
        CHECK.due("not sent", play(36, 32, 80) > 10, true);
    }

    /**
     * 36 messages of 60 packets to host 7, from four hosts by turns; packet 0 of message n comes in slot 3 + n, what
     * follows it is lost, and so is each answer. ASKs are due as above: the row is full from slot 53 on.
     */
    private static GrantNet crowdThatAsks() {
        GrantNet net = new GrantNet();
        int[] hosts = {4, 5, 6, 0};
        for (int link : new int[] {14, 15, 16, 8}) {
            net.lose(link, 100);
        }
        for (int slot = 1; slot <= 36; slot++) {
            int near = slot - 1;
            // From host 0 it takes two slots more.
            int far = slot + 1;
            if (near % 4 != 3) {
                net.message(hosts[near % 4], RECEIVER, 60, 0);
            }
            if (far % 4 == 3 && far < 36) {
                net.message(0, RECEIVER, 60, 0);
            }
            net.slot(1);
            if (near % 4 != 3) {
                net.lose(hosts[near % 4], 3);
            }
            if (far % 4 == 3 && far < 36) {
                net.lose(0, 3);
            }
        }
        net.slot(2);
        for (int h : hosts) {
            net.lose(h, 100);
        }
        return net;
    }

    /** "GRANTED is the TARGET, and a GRANT is due": GRANTED is so too if the GRANT is one that is not sent. */
    private static void aGrantThatFindsNoRoom() {
        GrantNet net = crowdThatAsks();
        net.slot(11);
        net.message(1, RECEIVER, 5, 0);
        net.slot(1);
        net.lose(1, 100);
        CHECK.due("due in slot 50", net.host(RECEIVER, 1), 18);
        net.slot(3);
        CHECK.due("due in slot 53", net.host(RECEIVER, 1), 23);
        CHECK.due("not known in slot 53", net.received(36, 0), 0);
        net.slot(1);
        CHECK.due("chosen in slot 54", net.chosen(RECEIVER, 0), 36);
        CHECK.due("granted", net.received(36, 3), 5);
        CHECK.due("due in slot 54", net.host(RECEIVER, 1), 23);
        for (int i = 0; i < 40; i++) {
            CHECK.due("no GRANT in slot " + (54 + i), net.packet(RECEIVER, 0), 2);
            net.slot(1);
        }
    }

    /** "the first of the row of what is due goes, if there is one. Else DATA". */
    private static void dueGoesAheadOfData() {
        GrantNet net = new GrantNet();
        net.message(0, 1, 5, 0);
        net.message(1, 2, 4, 0);
        int[] kinds = {0, 0, 1, 0, 0, -1, 3, -1};
        int[] counts = {0, 1, 4 * 5 + 1, 2, 3, -1};
        for (int i = 0; i < kinds.length; i++) {
            net.slot(1);
            CHECK.due("kind in slot " + (i + 1), net.packet(1, 0), kinds[i]);
            if (i < counts.length) {
                CHECK.due("count in slot " + (i + 1), net.packet(1, 2), counts[i]);
            }
        }
    }
}
