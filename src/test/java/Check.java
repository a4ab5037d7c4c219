/** Gathers the answers that are not as due, and ends the program with exit code 1 if there was one. */
final class Check {
    private final String test;
    private int asked = 0;
    private int wrong = 0;

    Check(String test) {
        this.test = test;
    }

    void due(String what, long got, long want) {
        asked++;
        if (got != want) {
            wrong++;
            System.out.println(test + ": " + what + " answered " + got + ", due is " + want);
        }
    }

    void due(String what, boolean got, boolean want) {
        due(what, got ? 1 : 0, want ? 1 : 0);
    }

    /** Many answers of the same kind, one for each what from 0 on. */
    void row(String what, java.util.function.IntUnaryOperator answer, int... wants) {
        for (int i = 0; i < wants.length; i++) {
            due(what + " " + i, answer.applyAsInt(i), wants[i]);
        }
    }

    void slotThrows(GrantNet net, int n) {
        int thrown = 0;
        try {
            net.slot(n);
        } catch (IllegalArgumentException e) {
            thrown = e.getClass() == IllegalArgumentException.class ? 1 : 2;
        }
        due("slot(" + n + ") throws (1 IllegalArgumentException, 0 nothing)", thrown, 1);
    }

    void end() {
        System.out.println(test + ": " + asked + " answers, " + wrong + " wrong");
        if (wrong != 0 || asked == 0) {
            System.exit(1);
        }
    }
}
