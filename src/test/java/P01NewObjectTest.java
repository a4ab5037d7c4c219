/** Promise 1: a new object. */
final class P01NewObjectTest {
    private static final Check CHECK = new Check("P01NewObjectTest");

    public static void main(String[] args) {
        nothingIsThere();
        objectsAreApart();
        CHECK.due("NONE", GrantNet.NONE, -1);
        CHECK.end();
    }

    private static void nothingIsThere() {
        GrantNet net = new GrantNet();
        for (int h = 0; h < 8; h++) {
            int host = h;
            CHECK.row("host " + h, what -> net.host(host, what), 0, 0, 0, 0, 0, 0);
            CHECK.row("chosen " + h, k -> net.chosen(host, k), -1, -1, -1);
            CHECK.row("finished " + h, k -> net.finished(host, k), -1, -1);
        }
        for (int l = 0; l < 24; l++) {
            int link = l;
            CHECK.row("packet " + l, what -> net.packet(link, what), -1, -1, -1, -1);
            int wait = l < 8 ? -1 : 0;
            CHECK.row("queue " + l, p -> net.queue(link, p), wait, wait, wait, wait);
        }
        for (int m = 0; m < 48; m++) {
            CHECK.due("sent of none", net.sent(m, 0), -1);
            CHECK.due("received of none", net.received(m, 0), -1);
            CHECK.due("in of none", net.in(m, 0), false);
        }
        CHECK.row("total", net::total, 0, 0, 0);
        CHECK.due("the first slot", net.slot(1), 1);
        CHECK.due("the first message", net.message(0, 1, 1, 0), 0);
    }

    private static void objectsAreApart() {
        GrantNet one = new GrantNet();
        GrantNet other = new GrantNet();
        one.message(0, 1, 9, 0);
        one.spine(0, false);
        one.lose(4, 100);
        one.slot(50);
        CHECK.due("the other's first message", other.message(4, 0, 3, 0), 0);
        CHECK.due("the other's first slots", other.slot(2), 2);
        CHECK.due("the other's spine 0 is on", other.packet(18, 1), 0);
        CHECK.due("the other lost nothing", other.total(1), 0);
    }
}
