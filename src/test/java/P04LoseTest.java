/** Promise 4: lose. */
final class P04LoseTest {
    private static final Check CHECK = new Check("P04LoseTest");

    public static void main(String[] args) {
        wrongInputs();
        aHostsLinkLoses();
        aSwitchsLinkLoses();
        theLatestCountHolds();
        aPacketThatIsOnTheLinkStays();
        CHECK.end();
    }

    private static void wrongInputs() {
        GrantNet net = new GrantNet();
        CHECK.due("lose(0, 2)", net.lose(0, 2), true);
        CHECK.due("lose(-1, 1)", net.lose(-1, 1), false);
        CHECK.due("lose(24, 1)", net.lose(24, 1), false);
        CHECK.due("lose(0, -1)", net.lose(0, -1), false);
        CHECK.due("lose(0, 101)", net.lose(0, 101), false);
        CHECK.due("lose(MAX, 1)", net.lose(Integer.MAX_VALUE, 1), false);
        CHECK.due("lose(0, MIN)", net.lose(0, Integer.MIN_VALUE), false);
        CHECK.due("lose(23, 100)", net.lose(23, 100), true);
        CHECK.due("lose(8, 0)", net.lose(8, 0), true);
        net.message(0, 1, 4, 0);
        net.slot(4);
        CHECK.due("the refused counts changed nothing", net.total(1), 2);
    }

    private static void aHostsLinkLoses() {
        GrantNet net = new GrantNet();
        net.lose(0, 2);
        net.message(0, 1, 4, 0);
        net.slot(1);
        CHECK.due("lost, not on the link", net.packet(0, 0), -1);
        CHECK.due("lost", net.total(1), 1);
        CHECK.due("sent all the same", net.host(0, 4), 1);
        net.slot(2);
        CHECK.due("lost two", net.total(1), 2);
        CHECK.due("the third is on the link", net.packet(0, 2), 2);
    }

    private static void aSwitchsLinkLoses() {
        GrantNet net = new GrantNet();
        net.lose(9, 1);
        net.message(0, 1, 4, 0);
        net.slot(2);
        CHECK.due("lost", net.total(1), 1);
        CHECK.due("it left the queue", net.queue(9, 1), 0);
        CHECK.due("the link got none instead", net.packet(9, 0), -1);
        CHECK.due("it is not dropped", net.total(0), 0);
        net.slot(1);
        CHECK.due("the next one goes", net.packet(9, 2), 1);
    }

    private static void theLatestCountHolds() {
        GrantNet net = new GrantNet();
        net.lose(0, 100);
        net.lose(0, 1);
        net.message(0, 1, 4, 0);
        net.slot(3);
        CHECK.due("one was lost", net.total(1), 1);
        net.lose(0, 5);
        CHECK.due("off again", net.lose(0, 0), true);
        net.slot(1);
        CHECK.due("none is lost more", net.total(1), 1);
        CHECK.due("the fourth is on the link", net.packet(0, 2), 3);
    }

    private static void aPacketThatIsOnTheLinkStays() {
        GrantNet net = new GrantNet();
        net.message(0, 1, 1, 0);
        net.slot(1);
        net.lose(0, 1);
        CHECK.due("still there", net.packet(0, 0), 0);
        net.slot(2);
        CHECK.due("it came", net.received(0, 0), 2);
        CHECK.due("none lost", net.total(1), 0);
    }
}
