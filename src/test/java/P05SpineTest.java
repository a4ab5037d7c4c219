/** Promise 5: spine, and how a leaf chooses. */
final class P05SpineTest {
    private static final Check CHECK = new Check("P05SpineTest");

    public static void main(String[] args) {
        wrongInputs();
        leavesTakeTurns();
        theOneThatIsOn();
        theOneThatIsOnCountsAsChosen();
        noneIsOn();
        aSpineGoesOffUnderWay();
        CHECK.end();
    }

    private static void wrongInputs() {
        GrantNet net = new GrantNet();
        for (int s : new int[] {-1, 2, Integer.MIN_VALUE, Integer.MAX_VALUE}) {
            CHECK.due("spine off", net.spine(s, false), false);
            CHECK.due("spine on", net.spine(s, true), false);
        }
        for (int s = 0; s < 2; s++) {
            CHECK.due("spine on", net.spine(s, true), true);
            CHECK.due("spine off", net.spine(s, false), true);
            CHECK.due("spine off again", net.spine(s, false), true);
        }
    }

    private static void leavesTakeTurns() {
        GrantNet net = new GrantNet();
        net.message(0, 4, 4, 0);
        net.slot(2);
        CHECK.due("packet 0 by spine 0", net.packet(12, 2), 0);
        net.message(5, 1, 4, 0);
        net.slot(1);
        CHECK.due("packet 1 by spine 1", net.packet(13, 2), 1);
        CHECK.due("packet 0 from spine 0", net.packet(21, 2), 0);
        net.slot(1);
        CHECK.due("packet 2 by spine 0", net.packet(12, 2), 2);
        CHECK.due("packet 1 from spine 1", net.packet(23, 2), 1);
        CHECK.due("leaf 1 begins with spine 0 too", net.packet(18, 1), 1);
        net.slot(1);
        CHECK.due("packet 3 by spine 1", net.packet(13, 2), 3);
        CHECK.due("leaf 1 by spine 1", net.packet(19, 1), 1);
        CHECK.due("to leaf 0 from spine 0", net.packet(20, 1), 1);
    }

    private static void theOneThatIsOn() {
        GrantNet net = new GrantNet();
        net.spine(1, false);
        net.message(0, 4, 4, 0);
        for (int i = 0; i < 4; i++) {
            net.slot(i == 0 ? 2 : 1);
            CHECK.due("by spine 0", net.packet(12, 2), i);
            CHECK.due("not by spine 1", net.packet(13, 2), -1);
        }
    }

    private static void theOneThatIsOnCountsAsChosen() {
        GrantNet net = new GrantNet();
        net.spine(0, false);
        net.message(0, 4, 4, 0);
        net.slot(2);
        CHECK.due("packet 0 by spine 1", net.packet(13, 2), 0);
        net.spine(0, true);
        net.slot(1);
        CHECK.due("packet 1 by spine 0, as spine 1 was last", net.packet(12, 2), 1);
        net.spine(1, false);
        net.slot(1);
        CHECK.due("packet 2 by spine 0 again", net.packet(12, 2), 2);
        net.spine(1, true);
        net.slot(1);
        CHECK.due("packet 3 by spine 1", net.packet(13, 2), 3);
    }

    private static void noneIsOn() {
        GrantNet net = new GrantNet();
        net.spine(0, false);
        net.spine(1, false);
        net.message(0, 4, 3, 0);
        net.message(1, 2, 1, 0);
        net.slot(2);
        CHECK.due("dropped at the leaf", net.total(0), 1);
        CHECK.due("not lost", net.total(1), 0);
        net.slot(8);
        CHECK.due("three dropped", net.total(0), 3);
        CHECK.due("within a leaf all goes on", net.sent(1, 0), 1);
        net.spine(0, true);
        net.spine(1, true);
        net.slot(31);
        CHECK.due("a drop is no choice: spine 0 comes first", net.packet(12, 2), 0);
    }

    private static void aSpineGoesOffUnderWay() {
        GrantNet net = new GrantNet();
        net.message(0, 4, 4, 0);
        net.slot(3);
        // Packet 0 has left spine 0, packet 1 is on its way to spine 1.
        net.spine(0, false);
        net.spine(1, false);
        net.slot(1);
        CHECK.due("packet 0 went on", net.packet(14, 2), 0);
        CHECK.due("packet 1 dropped at the spine, packet 2 at the leaf", net.total(0), 2);
        CHECK.due("nothing waits at the spine", net.queue(23, 1), 0);
        CHECK.due("nothing leaves it", net.packet(23, 0), -1);
    }
}
