import java.util.ArrayList;
import java.util.LinkedHashMap;
import java.util.List;
import java.util.Map;

/**
 * All that an object tells of its state, by parts of the state. It uses the object up: what cannot
 * be asked is told by undoing, reading, and trying what comes to the shelves. It takes some 350
 * calls at most, as an object has but 512.
 */
final class Probe {
    private final LeastShadows x;
    private final Map<String, List<Long>> parts = new LinkedHashMap<>();

    private Probe(LeastShadows x) {
        this.x = x;
    }

    static Map<String, List<Long>> of(LeastShadows x) {
        Probe probe = new Probe(x);
        probe.asked();
        probe.changes();
        probe.sorts();
        probe.grid();
        probe.tape();
        probe.image();
        return probe.parts;
    }

    private void note(String part, long answer) {
        parts.computeIfAbsent(part, p -> new ArrayList<>()).add(answer);
    }

    private void families(String part) {
        int many = x.count(0);
        note(part, many);
        for (int f = 0; f < many; f++) {
            note(part, x.of(f, 0));
            note(part, x.of(f, 1));
            note(part, x.sets(f, 1));
        }
    }

    private void asked() {
        note("cube", x.count(1));
        families("families");
        note("changes", x.count(2));
        note("changes", x.count(3));
        note("tape", x.count(4));
        int bytes = x.count(5);
        note("paper", bytes);
        for (int i = 0; i < 50 && i <= bytes; i++) {
            note("paper", x.paper(i));
        }
        for (int i = 0; i < 7; i++) {
            note("trace", x.trace(i));
        }
        note("shelves", x.count(6));
        note("lists", x.count(7));
        for (int i = 0; i < 3; i++) {
            for (int place = 0; place < 6; place++) {
                note("shelves", x.kept(i, place));
            }
            for (int place : new int[] {0, 1, 4, 5, 19, 20}) {
                note("lists", x.get(i, place));
            }
        }
        note("image", x.alike());
    }

    /** The states of tests change the first and the last family alone. */
    private void changes() {
        int last = x.count(0) - 1;
        for (int i = 0; i < 12 && x.count(2) > 0; i++) {
            note("changes", x.undo());
            note("changes", x.of(0, 0) * 10 + x.of(0, 1));
            note("changes", x.of(last, 0) * 10 + x.of(last, 1));
        }
        families("changes");
        for (int i = 0; i < 12 && x.count(3) > 0; i++) {
            note("changes", x.redo());
        }
        families("changes");
    }

    private void sorts() {
        if (x.count(0) == 8) {
            x.drop();
        }
        int family = x.come(0);
        x.set(family, 0, 3);
        for (int shelf = 0; shelf < 3; shelf++) {
            for (int i = 0; i < 7; i++) {
                note("shelves", x.keep(shelf, i, family));
            }
        }
        x.set(family, 0, 2);
        for (int i = 0; i < 3; i++) {
            note("shelves", x.keep(i, 0, family));
            note("lists", x.put(i, 0, 1L << 32 | 5));
            note("lists", x.get(i, 0));
        }
        x.drop();
    }

    private void grid() {
        note("grid", x.grid(1, 1));
    }

    private void tape() {
        int read = x.read();
        note("tape", read < 0 ? read : x.sets(read, 1));
    }

    private void image() {
        int back = x.back();
        note("image", back);
        if (back >= 0) {
            note("image", x.count(1));
            families("image");
        }
    }
}
