import java.util.Random;

/** Runs of calls drawn from fixed seeds, on GrantNet and on Model: every answer must be the same. */
final class ModelTest {
    private static final Check CHECK = new Check("ModelTest");
    private static final int RUNS = 1500;
    /** An object is used for at most 512 calls: so many are for what happens, the others are questions at the end. */
    private static final int CALLS = 512;
    private static final int CALLS_OF_PLAY = 360;
    private static final String[] NAMES = {
        "sent", "received", "in", "finished", "chosen", "host", "queue", "packet", "total"};
    private static final int SENT = 0;
    private static final int RECEIVED = 1;
    private static final int IN = 2;
    private static final int FINISHED = 3;
    private static final int CHOSEN = 4;
    private static final int HOST = 5;
    private static final int QUEUE = 6;
    private static final int PACKET = 7;
    /** The last argument of each kind of question that is not refused; a draw may go one beyond it, or to -1. */
    private static final int[] LAST_A = {47, 47, 47, 7, 7, 7, 23, 23, 2};
    private static final int[] LAST_B = {7, 6, 59, 64, 2, 5, 3, 3, 0};

    private final Random random;
    private final String name;
    private final GrantNet net = new GrantNet();
    private final Model model = new Model();
    /** Runs differ in how they are: how many go to one host, how much is lost, how often spines change. */
    private final int crowd;
    private final int losses;
    private final int changes;
    private final int longest;
    private final int pace;
    private int calls = 0;
    private int wrong = 0;

    private ModelTest(int seed) {
        random = new Random(seed);
        name = "seed " + seed + ": ";
        crowd = random.nextInt(4);
        losses = random.nextInt(4);
        changes = random.nextInt(3);
        longest = random.nextBoolean() ? 60 : 1 + random.nextInt(12);
        pace = new int[] {1, 3, 12, 40}[random.nextInt(4)];
    }

    public static void main(String[] args) {
        int[] seen = new int[Model.Rare.values().length];
        for (int seed = 1; seed <= RUNS; seed++) {
            ModelTest run = new ModelTest(seed);
            run.play();
            for (int r = 0; r < seen.length; r++) {
                seen[r] += run.model.seen[r];
            }
        }
        for (Model.Rare r : Model.Rare.values()) {
            CHECK.due("whether the runs saw " + r, seen[r.ordinal()] > 0, true);
        }
        CHECK.end();
    }

    private void play() {
        int early = random.nextInt(48);
        for (int i = 0; i < early; i++) {
            begin();
        }
        while (calls < CALLS_OF_PLAY && wrong == 0) {
            int draw = random.nextInt(20);
            if (draw < 3) {
                begin();
            } else if (draw < 3 + losses) {
                lose();
            } else if (draw < 6 + changes) {
                change();
            } else {
                move();
            }
            ask();
        }
        while (calls < CALLS && wrong == 0) {
            ask();
        }
        CHECK.due(name + "wrong answers", wrong, 0);
    }

    private void same(String call, int got, int want) {
        calls++;
        if (got != want && wrong++ == 0) {
            System.out.println(name + call + " answered " + got + ", the model " + want + ", clock " + model.clock);
        }
    }

    private void same(String call, boolean got, boolean want) {
        same(call, got ? 1 : 0, want ? 1 : 0);
    }

    private void begin() {
        int from = random.nextInt(40) == 0 ? random.nextInt(12) - 2 : random.nextInt(8);
        int to = random.nextInt(4) < crowd ? 3 : random.nextInt(8);
        if (crowd == 3 && random.nextInt(4) == 0) {
            from = 6;
        }
        int length = random.nextInt(40) == 0 ? random.nextInt(70) - 4 : 1 + random.nextInt(longest);
        int mode = random.nextInt(40) == 0 ? random.nextInt(5) - 1 : random.nextInt(2);
        String call = "message(" + from + ", " + to + ", " + length + ", " + mode + ")";
        same(call, net.message(from, to, length, mode), model.message(from, to, length, mode));
    }

    private void lose() {
        int link = random.nextInt(30) == 0 ? random.nextInt(30) - 3 : random.nextInt(24);
        int count = random.nextInt(30) == 0 ? random.nextInt(120) - 9 : random.nextInt(losses == 3 ? 101 : 9);
        same("lose(" + link + ", " + count + ")", net.lose(link, count), model.lose(link, count));
    }

    private void change() {
        int s = random.nextInt(20) == 0 ? random.nextInt(6) - 2 : random.nextInt(2);
        boolean on = random.nextInt(3) > 0;
        same("spine(" + s + ", " + on + ")", net.spine(s, on), model.spine(s, on));
    }

    private void move() {
        int n = random.nextInt(30) == 0 ? random.nextInt(220) - 8 : 1 + random.nextInt(pace);
        same("slot(" + n + ")", slotOf(n, true), slotOf(n, false));
    }

    private int slotOf(int n, boolean real) {
        try {
            return real ? net.slot(n) : model.slot(n);
        } catch (IllegalArgumentException e) {
            return -77;
        }
    }

    private void ask() {
        int kind = random.nextInt(NAMES.length);
        int lastA = kind <= IN && random.nextInt(8) > 0 ? model.senders.size() - 1 : LAST_A[kind];
        int a = draw(lastA);
        int b = kind == IN && random.nextBoolean() ? draw(8) : draw(LAST_B[kind]);
        if (!isFree(kind, a, b)) {
            same(NAMES[kind] + "(" + a + ", " + b + ")", answer(net, kind, a, b), answer(model, kind, a, b));
        }
    }

    private int draw(int last) {
        return random.nextInt(30) == 0 ? random.nextInt(last + 3) - 1 : random.nextInt(Math.max(1, last + 1));
    }

    /** What the count of a DONE is the document does not tell. */
    private boolean isFree(int kind, int a, int b) {
        return kind == PACKET && b == 2 && model.packet(a, 0) == Model.DONE;
    }

    private static int answer(GrantNet x, int method, int a, int b) {
        return switch (method) {
            case SENT -> x.sent(a, b);
            case RECEIVED -> x.received(a, b);
            case IN -> x.in(a, b) ? 1 : 0;
            case FINISHED -> x.finished(a, b);
            case CHOSEN -> x.chosen(a, b);
            case HOST -> x.host(a, b);
            case QUEUE -> x.queue(a, b);
            case PACKET -> x.packet(a, b);
            default -> x.total(a);
        };
    }

    private static int answer(Model x, int method, int a, int b) {
        return switch (method) {
            case SENT -> x.sent(a, b);
            case RECEIVED -> x.received(a, b);
            case IN -> x.in(a, b) ? 1 : 0;
            case FINISHED -> x.finished(a, b);
            case CHOSEN -> x.chosen(a, b);
            case HOST -> x.host(a, b);
            case QUEUE -> x.queue(a, b);
            case PACKET -> x.packet(a, b);
            default -> x.total(a);
        };
    }
}
