/** "CUTOFFS of a host: of the latest 16 messages that began there (fewer at first) ..; 0 without any." */
final class EdgeCutoffsTest {
    private static final Check CHECK = new Check("EdgeCutoffsTest");

    public static void main(String[] args) {
        withoutAny();
        theirPlaces(false);
        theirPlaces(true);
        sixteenAndSeventeen();
        sixteenAndSeventeenTurned();
        aFarOldOne();
        alike();
        CHECK.end();
    }

    private static void cutoffs(GrantNet net, int h, String when, int first, int second) {
        CHECK.due("first cutoff of host " + h + ", " + when, net.host(h, 2), first);
        CHECK.due("second cutoff of host " + h + ", " + when, net.host(h, 3), second);
    }

    private static void withoutAny() {
        GrantNet net = new GrantNet();
        net.message(3, 4, 9, 0);
        net.message(4, 4, 7, 0);
        for (int h = 0; h < 8; h++) {
            int want = h == 3 ? 9 : 0;
            cutoffs(net, h, "after one of host 3 to host 4", want, want);
        }
    }

    /** "their LENGTHS in order, c of them: those at the places c / 3 and 2 * c / 3, from 0 on". */
    private static void theirPlaces(boolean shortestFirst) {
        int[] first = {0, 0, 1, 1, 1, 2, 2, 2, 3, 3, 3, 4, 4, 4, 5, 5};
        int[] second = {0, 1, 2, 2, 3, 4, 4, 5, 6, 6, 7, 8, 8, 9, 10, 10};
        GrantNet net = new GrantNet();
        for (int c = 1; c <= 16; c++) {
            net.message(0, 1, shortestFirst ? 20 + c : 60 - c, 0);
            int least = shortestFirst ? 21 : 60 - c;
            cutoffs(net, 0, "of " + c, least + first[c - 1], least + second[c - 1]);
        }
    }

    private static void sixteenAndSeventeen() {
        GrantNet net = new GrantNet();
        net.message(0, 1, 1, 0);
        for (int length = 10; length <= 24; length++) {
            net.message(0, 1, length, 0);
        }
        cutoffs(net, 0, "of 1, 10 .. 24", 14, 19);
        net.message(2, 1, 60, 0);
        net.message(1, 0, 60, 0);
        cutoffs(net, 0, "those of others do not count", 14, 19);
        net.message(0, 1, 25, 0);
        cutoffs(net, 0, "of 10 .. 25, that of 1 is too old", 15, 20);
        net.message(0, 1, 60, 0);
        cutoffs(net, 0, "of 11 .. 25, 60", 16, 21);
    }

    /** The same with an old one that is long and a new one that is short. */
    private static void sixteenAndSeventeenTurned() {
        GrantNet net = new GrantNet();
        net.message(0, 1, 60, 0);
        for (int length = 10; length <= 24; length++) {
            net.message(0, 1, length, 0);
        }
        cutoffs(net, 0, "of 10 .. 24, 60", 15, 20);
        net.message(0, 1, 5, 0);
        cutoffs(net, 0, "of 5, 10 .. 24, that of 60 is too old", 14, 19);
        net.message(0, 1, 5, 0);
        cutoffs(net, 0, "of 5, 5, 11 .. 24", 14, 19);
        net.message(0, 1, 5, 0);
        cutoffs(net, 0, "of 5, 5, 5, 12 .. 24", 14, 19);
        for (int i = 0; i < 3; i++) {
            net.message(0, 1, 5, 0);
        }
        cutoffs(net, 0, "of six of 5, 15 .. 24", 5, 19);
    }

    /** Three times sixteen: the row of lengths is used again. */
    private static void aFarOldOne() {
        GrantNet net = new GrantNet();
        for (int length = 1; length <= 48; length++) {
            net.message(6, 1, length, 0);
        }
        cutoffs(net, 6, "of 33 .. 48", 33 + 5, 33 + 10);
        net.message(6, 1, 60, 0);
        cutoffs(net, 6, "the 49th did not begin", 33 + 5, 33 + 10);
    }

    private static void alike() {
        GrantNet net = new GrantNet();
        for (int i = 0; i < 4; i++) {
            net.message(5, 1, 7, 0);
        }
        cutoffs(net, 5, "of four of 7", 7, 7);
        net.message(5, 1, 8, 0);
        net.message(5, 1, 8, 0);
        cutoffs(net, 5, "of four of 7 and two of 8", 7, 8);
    }
}
