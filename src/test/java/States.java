import java.util.ArrayList;
import java.util.Arrays;
import java.util.List;
import java.util.Map;
import java.util.TreeSet;
import java.util.function.Supplier;
import java.util.function.ToLongFunction;

/** States that calls are tried in, and what calls change in them. */
final class States {
    private static final List<Supplier<LeastShadows>> ALL
        = Arrays.asList(LeastShadows::new, States::rich, States::full, States::emptied);

    private States() { }

    /** Something of everything: three elements, two families, changes done and undone. */
    static LeastShadows rich() {
        LeastShadows x = Made.cube(3, 0x96, 1 | 1 << 3);
        x.image();
        x.set(0, 0, 3);
        x.set(0, 1, 2);
        x.set(1, 1, 7);
        x.set(1, 0, 5);
        x.undo();
        x.undo();
        x.grid(3, 2);
        Made.feed(x, "a,bc");
        x.write(0);
        x.shelf(0, 1, 3);
        x.keep(0, 1, 0);
        x.shelf(2, 0, 2);
        x.keep(2, 0, 1);
        x.list(0, 0, 2);
        x.put(0, 1, -7);
        x.list(1, 1, 5);
        x.put(1, 4, 1L << 40);
        x.act(0, 2, 5);
        return x;
    }

    /** As much of everything as there may be. */
    static LeastShadows full() {
        LeastShadows x = Made.families(1, 2, 4, 8, 16, 32, 64, 65535);
        x.image();
        x.write(7);
        Made.feed(x, "ab,cd,0,abc,bc,".repeat(5) + "a,abc");
        for (int shelf = 0; shelf < 3; shelf++) {
            x.shelf(shelf, shelf, 6);
            x.set(0, 0, shelf == 1 ? 3 : 5);
            for (int i = 0; i < 6; i++) {
                x.keep(shelf, i, 0);
            }
        }
        for (int list = 0; list < 3; list++) {
            x.list(list, list % 2, 20);
            x.put(list, 0, 1);
            x.put(list, 19, -1);
        }
        x.grid(8, 8);
        for (int i = 1; i <= 9; i++) {
            x.set(i % 2 == 0 ? 0 : 7, 1, i);
        }
        x.set(7, 0, 4);
        x.act(7, 2, 9);
        return x;
    }

    /** Rows without places, a tape that was wiped, an image of no families, a change undone. */
    static LeastShadows emptied() {
        LeastShadows x = Made.cube(6);
        x.image();
        x.come(Long.MIN_VALUE);
        x.come(-1);
        x.drop();
        x.set(0, 0, 2);
        x.undo();
        Made.feed(x, "abcdef");
        x.wipe();
        for (int i = 0; i < 3; i++) {
            x.shelf(i, i, 0);
            x.list(i, i % 2, 0);
        }
        x.grid(1, 8);
        return x;
    }

    /** The parts of the state that are otherwise behind the call. */
    private static TreeSet<String> changedBy(Supplier<LeastShadows> state, ToLongFunction<LeastShadows> call) {
        LeastShadows x = state.get();
        call.applyAsLong(x);
        Map<String, List<Long>> is = Probe.of(x);
        Map<String, List<Long>> was = Probe.of(state.get());
        TreeSet<String> changed = new TreeSet<>();
        for (String part : was.keySet()) {
            if (!was.get(part).equals(is.get(part))) {
                changed.add(part);
            }
        }
        return changed;
    }

    /** The call is refused so in this state, and changes nothing. */
    static void refused(Supplier<LeastShadows> state, String call, ToLongFunction<LeastShadows> refused, long want) {
        Due.is(call, refused.applyAsLong(state.get()), want);
        changes(state, call, refused);
    }

    /** The call is refused so in every state, and changes nothing. */
    static void refused(String call, ToLongFunction<LeastShadows> refused, long want) {
        for (Supplier<LeastShadows> state : ALL) {
            refused(state, call, refused, want);
        }
    }

    /** The call changes these parts of the state, and nothing else. */
    static void changes(Supplier<LeastShadows> state, String call, ToLongFunction<LeastShadows> made, String... parts) {
        TreeSet<String> changed = changedBy(state, made);
        TreeSet<String> due = new TreeSet<>(Arrays.asList(parts));
        Due.holds(call + " changes " + changed + " for " + due, changed.equals(due));
    }

    /** The call changes nothing in any state. */
    static void changesNothing(String call, ToLongFunction<LeastShadows> asked) {
        for (Supplier<LeastShadows> state : new ArrayList<>(ALL)) {
            changes(state, call, asked);
        }
    }
}
