import java.util.function.Supplier;
import java.util.function.ToLongFunction;

/** Changes, the image, counts, and what is said of all answers: the sentences of the terms, and promises 47 to 52. */
final class ChangeEdges {
    private static final int LEAST_INT = Integer.MIN_VALUE, GREATEST_INT = Integer.MAX_VALUE;

    private ChangeEdges() { }

    static void test() {
        changes();
        answers();
        promises();
    }

    private static void changes() {
        Sentences.of("Terms", "CHANGES: what set() made otherwise can be UNDONE, the latest first, 12 at most (then the eldest is none any more),", ChangeEdges::twelve);
        Sentences.of("Terms", "and DONE AGAIN, as long as no other one came behind;", ChangeEdges::anotherOneBehind);
        Sentences.of("Terms", "telling what is so already is none.", ChangeEdges::toldAlready);
        Sentences.of("Terms", "cube(), come(), press(), first(), read(), drop(), back() leave none (where they are not refused, by no FAULT).", ChangeEdges::leaveNone);
        Sentences.of("Terms", "What changes nothing leaves what can be DONE AGAIN;", ChangeEdges::changesNothing);
        Sentences.of("Terms", "what leaves no CHANGES leaves none to be DONE AGAIN, too.", ChangeEdges::noneToBeDoneAgain);
        Sentences.of("Terms", "THE IMAGE: THE CUBE, FAMILIES with all that is theirs;", ChangeEdges::imageHas);
        Sentences.of("Terms", "ALIKE: all of these are now as it has them.", ChangeEdges::alikeInAll);
        Sentences.of("Terms", "All that follows is asked, and changes nothing.", ChangeEdges::asked);
    }

    private static void answers() {
        Sentences.of("Terms", "ANSWERS that are refusals (nothing changes but where it is told), of several the first as the call's words name them:", ChangeEdges::firstRefusal);
        Sentences.of("Terms", "BAD (-1): no such one, a number out of its range.", () -> Due.is("BAD", LeastShadows.BAD, -1));
        Sentences.of("Terms", "NOT (-2): there is none.", () -> Due.is("NOT", LeastShadows.NOT, -2));
        Sentences.of("Terms", "FULL (-3).", () -> Due.is("FULL", LeastShadows.FULL, -3));
        Sentences.of("Terms", "STATE (-5): as told.", () -> Due.is("STATE", LeastShadows.STATE, -5));
        Sentences.of("Terms", "OVER (-6).", () -> Due.is("OVER", LeastShadows.OVER, -6));
        Sentences.of("Terms", "VOID: the least long.", () -> Due.is("VOID", LeastShadows.VOID, Long.MIN_VALUE));
    }

    private static void promises() {
        Sentences.of("Promise 47", "The latest CHANGE is UNDONE: how many can still be.", ChangeEdges::undo);
        Sentences.of("Promise 47", "STATE: there is none.", ChangeEdges::undoNone);
        Sentences.of("Promise 48", "The CHANGE UNDONE last is DONE AGAIN: how many can still be.", ChangeEdges::redo);
        Sentences.of("Promise 48", "STATE: there is none.", ChangeEdges::redoNone);
        Sentences.of("Promise 49", "THE IMAGE is taken: how many FAMILIES.", ChangeEdges::image);
        Sentences.of("Promise 50", "ALIKE (1, 0).", ChangeEdges::alike);
        Sentences.of("Promise 50", "STATE: there is no IMAGE.", ChangeEdges::alikeNone);
        Sentences.of("Promise 51", "All is as THE IMAGE: how many FAMILIES.", ChangeEdges::back);
        Sentences.of("Promise 51", "STATE: there is none.", ChangeEdges::backNone);
        Sentences.of("Promise 52", "0 FAMILIES, 1 n, 2 CHANGES that can be UNDONE, 3 that can be DONE AGAIN, 4 bytes of THE TAPE, 5 of THE PAPER, 6 SHELVES, 7 LISTS that are there.", ChangeEdges::count);
        Sentences.of("Promise 52", "BAD.", ChangeEdges::countBad);
    }

    private static void left(String call, LeastShadows x, int undoable, int redoable) {
        Due.is(call + ": can be UNDONE", x.count(2), undoable);
        Due.is(call + ": can be DONE AGAIN", x.count(3), redoable);
    }

    // ---- changes

    private static void twelve() {
        for (int times : new int[] {0, 1, 11, 12, 13, 24, 25, 40}) {
            LeastShadows x = Made.changed(times);
            int can = Math.min(times, 12);
            Due.is("of " + times, x.count(2), can);
            for (int left = can - 1; left >= 0; left--) {
                Due.is("undo of " + times, x.undo(), left);
                Due.is("the latest first", x.of(0, 1), (times - can + left) % 10);
            }
            Due.is("the eldest is none any more", x.undo(), -5);
            Due.is("it stays done", x.of(0, 1), (times - can) % 10);
            for (int left = can - 1; left >= 0; left--) {
                Due.is("redo of " + times, x.redo(), left);
                Due.is("in their order", x.of(0, 1), (times - left) % 10);
            }
            Due.is("none behind", x.redo(), -5);
        }
        LeastShadows x = Made.families(1, 2, 4, 8, 16, 32, 64, 128);
        for (int f = 7; f >= 0; f--) {
            x.set(f, 0, 5);
            x.set(f, 1, f + 1);
        }
        for (int i = 0; i < 12; i++) {
            x.undo();
        }
        for (int f = 0; f < 8; f++) {
            Due.is("KIND of " + f, x.of(f, 0), f < 6 ? 0 : 5);
            Due.is("FIGURE of " + f, x.of(f, 1), f < 6 ? 0 : f + 1);
        }
    }

    private static void anotherOneBehind() {
        LeastShadows x = Made.changed(12);
        for (int i = 0; i < 5; i++) {
            x.undo();
        }
        left("five UNDONE", x, 7, 5);
        x.set(0, 0, 4);
        left("another one behind", x, 8, 0);
        Due.is("none can be DONE AGAIN", x.redo(), -5);
        Due.is("the FIGURE stays", x.of(0, 1), 7);
        x.undo();
        left("it UNDONE", x, 7, 1);
        Due.is("KIND was", x.of(0, 0), 0);
        x.undo();
        Due.is("FIGURE was", x.of(0, 1), 6);
        x.redo();
        x.redo();
        Due.is("both again: KIND", x.of(0, 0), 4);
        Due.is("both again: FIGURE", x.of(0, 1), 7);
        LeastShadows full = Made.changed(13);
        full.undo();
        full.set(0, 0, 1);
        left("12 again", full, 12, 0);
        full.set(0, 0, 2);
        left("12 at most", full, 12, 0);
    }

    private static void toldAlready() {
        LeastShadows x = Made.changed(3);
        x.undo();
        x.set(0, 1, 2);
        x.set(0, 0, 0);
        left("told already", x, 2, 1);
        Due.is("it is DONE AGAIN", x.redo(), 0);
        Due.is("FIGURE", x.of(0, 1), 3);
        LeastShadows full = Made.changed(12);
        full.set(0, 1, 2);
        left("the eldest stays", full, 12, 0);
        for (int i = 11; i >= 0; i--) {
            Due.is("undo", full.undo(), i);
        }
    }

    /** Two changes were made, one of them UNDONE; the image is of ahead of them. */
    private static LeastShadows changed() {
        LeastShadows x = Made.families(6);
        x.image();
        x.set(0, 0, 3);
        x.set(0, 1, 3);
        x.undo();
        return x;
    }

    private static void leavesNone(String call, ToLongFunction<LeastShadows> made) {
        LeastShadows x = changed();
        Due.holds(call + " is not refused", made.applyAsLong(x) >= 0);
        left(call, x, 0, 0);
        Due.is(call + ": undo", x.undo(), -5);
        Due.is(call + ": redo", x.redo(), -5);
    }

    private static void leavesThem(String call, Supplier<LeastShadows> state, ToLongFunction<LeastShadows> refused) {
        LeastShadows x = state.get();
        int undoable = x.count(2);
        int redoable = x.count(3);
        Due.holds(call + " is refused", refused.applyAsLong(x) < 0);
        left(call, x, undoable, redoable);
    }

    private static LeastShadows changedFull() {
        LeastShadows x = Made.fullOfFamilies();
        x.set(0, 0, 3);
        x.set(7, 1, 3);
        x.undo();
        return x;
    }

    private static void leaveNone() {
        leavesNone("cube()", x -> x.cube(5));
        leavesNone("cube() as it is", x -> x.cube(4));
        leavesNone("come()", x -> x.come(0));
        leavesNone("press()", x -> x.press(0));
        leavesNone("first()", x -> x.first(0, 0));
        leavesNone("read()", x -> Made.read(x, "0"));
        leavesNone("drop()", LeastShadows::drop);
        leavesNone("back()", LeastShadows::back);
        leavesThem("cube()", ChangeEdges::changed, x -> x.cube(7));
        leavesThem("come() BAD", ChangeEdges::changed, x -> x.come(65536));
        leavesThem("press() BAD", ChangeEdges::changed, x -> x.press(1));
        leavesThem("first() BAD", ChangeEdges::changed, x -> x.first(0, 17));
        leavesThem("read() by a FAULT", ChangeEdges::changed, x -> Made.read(x, "0,"));
        leavesThem("come() FULL", ChangeEdges::changedFull, x -> x.come(1));
        leavesThem("press() FULL", ChangeEdges::changedFull, x -> x.press(0));
        leavesThem("first() FULL", ChangeEdges::changedFull, x -> x.first(0, 1));
        leavesThem("read() FULL", ChangeEdges::changedFull, x -> Made.read(x, "0"));
        leavesThem("back() without an image", ChangeEdges::changedFull, LeastShadows::back);
    }

    private static void changesNothing() {
        LeastShadows x = changed();
        x.set(0, 0, 3);
        x.set(0, 1, 0);
        x.set(0, 1, 10);
        x.set(1, 1, 1);
        left("set() of what is so, and refused ones", x, 1, 1);
        x.image();
        x.alike();
        x.grid(1, 1);
        x.write(0);
        x.feed('a');
        x.wipe();
        x.shelf(0, 0, 1);
        x.keep(0, 0, 0);
        x.like(1, 0);
        x.shift(0, 0, 1, 0, 1);
        x.list(0, 0, 1);
        x.put(0, 0, 1);
        x.act(0, 2, 1);
        left("what leaves FAMILIES as they are", x, 1, 1);
        Due.is("it is DONE AGAIN", x.redo(), 0);
        Due.is("redo() of none", x.redo(), -5);
        left("redo() of none leaves what can be UNDONE", x, 2, 0);
        x.undo();
        x.undo();
        Due.is("undo() of none", x.undo(), -5);
        left("undo() of none leaves what can be DONE AGAIN", x, 0, 2);
    }

    private static void noneToBeDoneAgain() {
        LeastShadows x = changed();
        x.come(1);
        Due.is("behind come()", x.redo(), -5);
        x = changed();
        x.undo();
        x.back();
        Due.is("behind back(), even where all was ALIKE", x.redo(), -5);
        x = changed();
        x.drop();
        Due.is("behind drop()", x.redo(), -5);
        x = changed();
        x.cube(4);
        Due.is("behind cube()", x.redo(), -5);
        Due.is("behind press()", afterwards(y -> y.press(0)), -5);
        Due.is("behind first()", afterwards(y -> y.first(2, 3)), -5);
        Due.is("behind read()", afterwards(y -> Made.read(y, "a")), -5);
    }

    private static int afterwards(ToLongFunction<LeastShadows> made) {
        LeastShadows x = changed();
        made.applyAsLong(x);
        return x.redo();
    }

    // ---- the image

    private static void imageHas() {
        LeastShadows x = Made.cube(5, 1, 1L << 31);
        x.set(1, 0, 5);
        x.set(1, 1, 9);
        x.image();
        x.cube(2);
        x.come(3);
        x.back();
        long[] all = {x.count(1), x.count(0), x.sets(0, 1), x.of(0, 0), x.of(0, 1), x.sets(1, 1), x.of(1, 0), x.of(1, 1)};
        Due.are("n, FAMILIES, TOLD SETS, KINDS, FIGURES", all, 5, 2, 1, 0, 0, 1L << 31, 5, 9);
        x.set(1, 0, 1);
        x.come(7);
        Due.is("it does not change with them", x.back(), 2);
        Due.is("KIND", x.of(1, 0), 5);
        States.changes(States::rich, "image()", LeastShadows::image, "image");
        States.changes(LeastShadows::new, "image() of none", LeastShadows::image, "image");
    }

    private static void alikeInAll() {
        LeastShadows x = Made.families(1, 65535);
        x.set(1, 0, 4);
        x.set(1, 1, 2);
        x.image();
        Due.is("at once", x.alike(), 1);
        x.undo();
        Due.is("a CHANGE from ahead of it UNDONE", x.alike(), 0);
        x.redo();
        Due.is("and DONE AGAIN", x.alike(), 1);
        x.set(1, 1, 3);
        Due.is("another FIGURE", x.alike(), 0);
        x.undo();
        Due.is("UNDONE", x.alike(), 1);
        x.set(0, 0, 3);
        Due.is("another KIND", x.alike(), 0);
        x.set(0, 0, 0);
        Due.is("the KIND as it was", x.alike(), 1);
        x.come(5);
        Due.is("one more", x.alike(), 0);
        x.drop();
        Due.is("it went", x.alike(), 1);
        x.drop();
        Due.is("one less", x.alike(), 0);
        x.come(32767);
        x.set(1, 0, 4);
        x.set(1, 1, 2);
        Due.is("other TOLD SETS, though its SETS are the same", x.alike(), 0);
        LeastShadows empty = Made.cube(3);
        empty.image();
        empty.cube(2);
        Due.is("another cube alone", empty.alike(), 0);
        empty.cube(3);
        Due.is("the cube as it was", empty.alike(), 1);
        LeastShadows other = Made.families(1);
        other.image();
        other.grid(1, 2);
        other.shelf(0, 0, 1);
        other.list(0, 0, 1);
        other.feed('a');
        other.write(0);
        other.act(0, 0, 1);
        Due.is("other things are not in it", other.alike(), 1);
    }

    private static void asked() {
        States.changesNothing("cascade()", x -> x.cascade(100, 5, 1));
        States.changesNothing("bound(), scaled()", x -> x.bound(100, 5) + x.scaled(100, 5, 2000000000));
        States.changesNothing("least(), leastSets()", x -> x.least(2, 2, 1) + x.leastSets(0, 2, 1));
        States.changesNothing("meets(), ordered()", x -> x.meets(3, 1, 2) + x.ordered(3, 1));
        States.changesNothing("leastCells(), meetsCells()", x -> x.leastCells(1, 2) + x.meetsCells(2, 1, 2));
        States.changesNothing("is()", x -> x.is(0, 0) + x.is(0, 1) + x.is(0, 2) + x.is(0, 3));
        States.changesNothing("profile(), bits(), weight()", x -> x.profile(0, 1) + x.bits(0, 1) + x.weight(0));
        States.changesNothing("judge(), lots()", x -> x.judge(0, 0) + x.lots(3, 40, 8, 0));
        States.changesNothing("rounds(), pressed()", x -> x.rounds(0) + x.pressed(0, 0, 1));
        States.changesNothing("count(), alike()", x -> x.count(2) + x.alike());
    }

    // ---- answers

    private static void firstRefusal() {
        LeastShadows x = Made.fullOfFamilies();
        Due.is("come(): BAD ahead of FULL", x.come(65536), -1);
        Due.is("press(): BAD ahead of FULL", x.press(8), -1);
        Due.is("first(): BAD ahead of FULL", x.first(4, 1), -1);
        Due.is("ordered(): BAD ahead of NOT", x.ordered(4, 16), -1);
        Due.is("scaled(): BAD ahead of OVER", x.scaled(2000000000, 12, 2000000001), -1);
        Due.is("taken(): BAD ahead of STATE", x.taken(0, 6), -1);
        Due.is("judge(): BAD ahead of -11", x.judge(0, 8), -1);
        Due.is("keep(): BAD ahead of -11", x.keep(0, 0, 8), -1);
        Due.is("keep(): -11 ahead of -13", x.keep(0, 9, 0), -11);
        x.shelf(0, 1, 1);
        Due.is("keep(): -13 ahead of -12", x.keep(0, 1, 0), -13);
        Due.is("shelf(): BAD ahead of -14", x.shelf(0, 3, -1), -1);
        Due.is("like(): BAD ahead of -11", x.like(1, 1), -1);
        Due.is("shift(): BAD ahead of -11", x.shift(3, 0, 1, 0, 0), -1);
        Due.is("shift(): -11 ahead of -13", x.shift(0, 0, 1, 0, 9), -11);
        Due.is("list(): BAD ahead of -14", x.list(0, 2, -1), -1);
        Due.is("put(): BAD ahead of -11", x.put(3, 0, 0), -1);
        Due.is("put(): -11 ahead of -13", x.put(0, -1, 0), -11);
        for (int i = 0; i < 80; i++) {
            x.feed('a');
        }
        Due.is("feed(): BAD ahead of FULL", x.feed(127), -1);
        x.cube(6);
        Due.is("least(): BAD ahead of STATE", x.least(0, 65, 0), -1);
        Due.is("least() by what 2: BAD ahead of STATE", x.least(2, 21, 3), -1);
        Due.is("meets(): BAD ahead of STATE", x.meets(0, 0, 65), -1);
        x.grid(8, 8);
        Due.is("leastCells(): BAD ahead of STATE", x.leastCells(0, 65), -1);
        Due.is("meetsCells(): BAD ahead of STATE", x.meetsCells(3, 0, 1), -1);
    }

    // ---- promises

    private static void undo() {
        LeastShadows x = Made.families(6, 9);
        x.set(1, 0, 2);
        x.set(0, 0, 1);
        x.set(1, 1, 8);
        x.set(1, 1, 7);
        Due.is("undo", x.undo(), 3);
        Due.is("FIGURE was 8", x.of(1, 1), 8);
        Due.is("undo", x.undo(), 2);
        Due.is("FIGURE was 0", x.of(1, 1), 0);
        Due.is("its KIND stays", x.of(1, 0), 2);
        Due.is("undo", x.undo(), 1);
        Due.is("the other one's KIND", x.of(0, 0), 0);
        Due.is("undo", x.undo(), 0);
        long[] all = {x.of(0, 0), x.of(0, 1), x.sets(0, 1), x.of(1, 0), x.of(1, 1), x.sets(1, 1)};
        Due.are("as they came", all, 0, 0, 6, 0, 0, 9);
        States.changes(States::rich, "undo()", LeastShadows::undo, "families", "changes");
    }

    private static void undoNone() {
        States.refused(LeastShadows::new, "a new object's", LeastShadows::undo, -5);
        States.refused(States::emptied, "all UNDONE", LeastShadows::undo, -5);
        Due.is("of a FAMILY that came", Made.families(1).undo(), -5);
    }

    private static void redo() {
        LeastShadows x = Made.families(6, 9);
        x.set(1, 0, 2);
        x.set(0, 0, 1);
        x.set(1, 1, 8);
        x.undo();
        x.undo();
        x.undo();
        Due.is("redo", x.redo(), 2);
        Due.is("KIND of 1", x.of(1, 0), 2);
        Due.is("not yet", x.of(0, 0), 0);
        Due.is("redo", x.redo(), 1);
        Due.is("KIND of 0", x.of(0, 0), 1);
        Due.is("redo", x.redo(), 0);
        Due.is("FIGURE of 1", x.of(1, 1), 8);
        left("all DONE AGAIN", x, 3, 0);
        States.changes(States::rich, "redo()", LeastShadows::redo, "families", "changes");
    }

    private static void redoNone() {
        States.refused(LeastShadows::new, "a new object's", LeastShadows::redo, -5);
        States.refused(States::full, "none UNDONE", LeastShadows::redo, -5);
        LeastShadows x = Made.changed(1);
        x.undo();
        x.redo();
        Due.is("all DONE AGAIN", x.redo(), -5);
    }

    private static void image() {
        LeastShadows x = new LeastShadows();
        Due.is("of none", x.image(), 0);
        for (int i = 1; i <= 8; i++) {
            x.come(i);
            Due.is("of " + i, x.image(), i);
        }
        x.drop();
        Due.is("another one in its place", x.image(), 7);
        Due.is("back() is as the latest", x.back(), 7);
        Due.is("the eighth is in none", x.of(7, 0), -1);
    }

    private static void alike() {
        LeastShadows x = new LeastShadows();
        x.image();
        Due.is("of none", x.alike(), 1);
        x.come(0);
        Due.is("one came", x.alike(), 0);
        x.cube(4);
        Due.is("none again", x.alike(), 1);
        x.cube(5);
        Due.is("another cube", x.alike(), 0);
        LeastShadows full = Made.fullOfFamilies();
        full.image();
        full.set(7, 1, 1);
        Due.is("the last of eight", full.alike(), 0);
        full.undo();
        full.set(0, 1, 1);
        Due.is("the first of eight", full.alike(), 0);
        States.changesNothing("alike()", LeastShadows::alike);
    }

    private static void alikeNone() {
        States.refused(LeastShadows::new, "no image", LeastShadows::alike, -5);
        LeastShadows x = Made.changed(2);
        Due.is("none yet", x.alike(), -5);
        x.cube(4);
        x.image();
        x.cube(3);
        Due.is("cube() leaves the image", x.alike(), 0);
    }

    private static void back() {
        LeastShadows x = Made.cube(6, 1, 2);
        x.set(0, 0, 5);
        x.image();
        x.cube(1);
        for (int i = 0; i < 8; i++) {
            x.come(3);
        }
        Due.is("two of n 6", x.back(), 2);
        for (int gone = 2; gone < 8; gone++) {
            Due.is("what came behind is none", x.of(gone, 0), -1);
        }
        long[] all = {x.count(0), x.count(1), x.of(0, 0), x.sets(0, 1), x.sets(1, 1), x.of(2, 0), x.alike()};
        Due.are("as the image", all, 2, 6, 5, 1, 2, -1, 1);
        x.set(0, 1, 4);
        Due.is("once more", x.back(), 2);
        Due.is("FIGURE", x.of(0, 1), 0);
        left("no CHANGES", x, 0, 0);
        Due.is("the next number", x.come(5), 2);
        States.changes(States::rich, "back()", LeastShadows::back, "families", "changes", "image");
        LeastShadows none = new LeastShadows();
        none.image();
        none.come(1);
        Due.is("of none", none.back(), 0);
        Due.is("none", none.of(0, 0), -1);
    }

    private static void backNone() {
        States.refused(LeastShadows::new, "no image", LeastShadows::back, -5);
        LeastShadows x = changedFull();
        Due.is("no image", x.back(), -5);
        Due.is("eight stay", x.count(0), 8);
        left("CHANGES stay", x, 1, 1);
    }

    private static void count() {
        LeastShadows x = new LeastShadows();
        long[] fresh = {x.count(0), x.count(1), x.count(2), x.count(3), x.count(4), x.count(5), x.count(6), x.count(7)};
        Due.are("a new object's", fresh, 0, 4, 0, 0, 0, 0, 0, 0);
        LeastShadows rich = States.rich();
        long[] some = {rich.count(0), rich.count(1), rich.count(2), rich.count(3), rich.count(4), rich.count(5), rich.count(6), rich.count(7)};
        Due.are("some", some, 2, 3, 2, 2, 4, rich.write(0), 2, 2);
        LeastShadows full = States.full();
        long[] most = {full.count(0), full.count(1), full.count(2), full.count(3), full.count(4), full.count(5), full.count(6), full.count(7)};
        Due.are("the most", most, 8, 4, 12, 0, 80, 48, 3, 3);
        for (int what = 0; what <= 7; what++) {
            int w = what;
            States.changesNothing("count(" + w + ")", y -> y.count(w));
        }
    }

    private static void countBad() {
        for (int what : new int[] {-1, 8, LEAST_INT, GREATEST_INT}) {
            States.refused("what " + what, x -> x.count(what), -1);
        }
    }
}
