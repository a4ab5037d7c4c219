import java.util.ArrayList;
import java.util.List;

/** All that an object tells of a run with few messages, asked by few enough calls for the 512 that an object has. */
final class Snapshot {
    private final List<String> names = new ArrayList<>();
    private final List<Integer> answers = new ArrayList<>();

    private Snapshot() {
    }

    static Snapshot of(GrantNet net, int messages) {
        Snapshot s = new Snapshot();
        for (int what = 0; what < 3; what++) {
            s.add("total " + what, net.total(what));
        }
        for (int h = 0; h < 8; h++) {
            for (int what = 0; what < 6; what++) {
                s.add("host " + h + " " + what, net.host(h, what));
            }
            for (int k = 0; k < 3; k++) {
                s.add("chosen " + h + " " + k, net.chosen(h, k));
            }
            s.add("finished " + h, net.finished(h, 0));
        }
        for (int link = 0; link < 24; link++) {
            for (int what = 1; what < 4; what++) {
                s.add("packet " + link + " " + what, net.packet(link, what));
            }
            for (int priority = 0; link >= 8 && priority < 4; priority++) {
                s.add("queue " + link + " " + priority, net.queue(link, priority));
            }
        }
        for (int m = 0; m < messages; m++) {
            for (int what = 0; what < 8; what++) {
                s.add("sent " + m + " " + what, net.sent(m, what));
            }
            for (int what = 0; what < 7; what++) {
                s.add("received " + m + " " + what, net.received(m, what));
            }
        }
        return s;
    }

    private void add(String name, int answer) {
        names.add(name);
        answers.add(answer);
    }

    void sameAs(Snapshot other, Check check, String when) {
        check.due(when + ", how many answers", answers.size(), other.answers.size());
        for (int i = 0; i < Math.min(answers.size(), other.answers.size()); i++) {
            check.due(when + ", " + names.get(i), answers.get(i), other.answers.get(i));
        }
    }
}
