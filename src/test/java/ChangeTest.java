/** Promises 47 to 52: changes, the image, counts. */
public final class ChangeTest {
    public static void main(String[] args) {
        undoAndRedo();
        twelve();
        whatLeavesNone();
        whatLeavesThem();
        image();
        count();
        Due.end();
    }

    private static void undoAndRedo() {
        LeastShadows x = new LeastShadows();
        Due.is("nothing to undo", x.undo(), -5);
        Due.is("nothing to do again", x.redo(), -5);
        x.come(6);
        x.come(9);
        x.set(0, 0, 3);
        x.set(1, 1, 4);
        x.set(0, 1, 2);
        Due.is("undo", x.undo(), 2);
        Due.is("figure is as it was", x.of(0, 1), 0);
        Due.is("undo", x.undo(), 1);
        Due.is("the other one's, too", x.of(1, 1), 0);
        Due.is("two can be done again", x.count(3), 2);
        Due.is("redo", x.redo(), 1);
        Due.is("done again", x.of(1, 1), 4);
        Due.is("told already", x.set(0, 0, 3), 3);
        Due.is("that is no change", x.count(2), 2);
        Due.is("and leaves what can be done again", x.count(3), 1);
        Due.is("a refused one", x.set(0, 0, 6), -1);
        Due.is("leaves it, too", x.count(3), 1);
        x.set(1, 0, 2);
        Due.is("another one came behind", x.count(3), 0);
        Due.is("nothing to do again", x.redo(), -5);
        long[] all = {x.undo(), x.undo(), x.undo(), x.undo()};
        Due.are("all undone", all, 2, 1, 0, -5);
        long[] kinds = {x.of(0, 0), x.of(0, 1), x.of(1, 0), x.of(1, 1)};
        Due.are("as they came", kinds, 0, 0, 0, 0);
        long[] again = {x.redo(), x.redo(), x.redo(), x.redo()};
        Due.are("all done again", again, 2, 1, 0, -5);
        long[] then = {x.of(0, 0), x.of(0, 1), x.of(1, 0), x.of(1, 1)};
        Due.are("as they were", then, 3, 0, 2, 4);
    }

    private static void twelve() {
        LeastShadows x = new LeastShadows();
        x.come(6);
        for (int i = 1; i <= 14; i++) {
            x.set(0, 1, i % 10);
        }
        Due.is("twelve at most", x.count(2), 12);
        for (int i = 11; i >= 0; i--) {
            Due.is("undo", x.undo(), i);
        }
        Due.is("no more", x.undo(), -5);
        Due.is("the eldest two stay done", x.of(0, 1), 2);
        for (int i = 11; i >= 0; i--) {
            Due.is("redo", x.redo(), i);
        }
        Due.is("the latest", x.of(0, 1), 4);
    }

    private static LeastShadows withChanges() {
        LeastShadows x = new LeastShadows();
        x.come(6);
        x.image();
        x.set(0, 0, 3);
        x.set(0, 1, 3);
        x.undo();
        return x;
    }

    private static void left(String call, LeastShadows x, int undoable, int redoable) {
        Due.is(call + ", can be undone", x.count(2), undoable);
        Due.is(call + ", can be done again", x.count(3), redoable);
    }

    private static void whatLeavesNone() {
        LeastShadows x = withChanges();
        x.cube(4);
        left("cube", x, 0, 0);
        x = withChanges();
        x.come(0);
        left("come", x, 0, 0);
        x = withChanges();
        x.press(0);
        left("press", x, 0, 0);
        x = withChanges();
        x.first(0, 0);
        left("first", x, 0, 0);
        x = withChanges();
        x.feed('0');
        x.read();
        left("read", x, 0, 0);
        x = withChanges();
        x.drop();
        left("drop", x, 0, 0);
        x = withChanges();
        x.back();
        left("back", x, 0, 0);
    }

    private static void whatLeavesThem() {
        LeastShadows x = withChanges();
        x.cube(0);
        x.come(-1);
        x.press(1);
        x.first(0, 17);
        x.read();
        left("refused ones", x, 1, 1);
        x.grid(2, 2);
        x.write(0);
        x.shelf(0, 0, 2);
        x.keep(0, 0, 0);
        x.list(0, 0, 3);
        x.put(0, 0, 3);
        x.act(0, 1, 3);
        x.image();
        x.alike();
        x.feed('a');
        x.wipe();
        left("others", x, 1, 1);
        x = new LeastShadows();
        x.come(1);
        x.set(0, 1, 5);
        Due.is("no image", x.back(), -5);
        left("back that is refused", x, 1, 0);
        for (int i = 1; i < 8; i++) {
            x.come(1);
        }
        x.set(0, 1, 6);
        long[] full = {x.come(1), x.press(0), x.first(0, 1)};
        Due.are("FULL", full, -3, -3, -3);
        left("FULL", x, 1, 0);
    }

    private static void image() {
        LeastShadows x = new LeastShadows();
        Due.is("no image", x.alike(), -5);
        Due.is("no image", x.back(), -5);
        Due.is("an image of none", x.image(), 0);
        Due.is("alike", x.alike(), 1);
        x.come(6);
        Due.is("one more", x.alike(), 0);
        Due.is("back", x.back(), 0);
        Due.is("none", x.count(0), 0);
        x.come(6);
        x.come(7);
        x.set(1, 0, 4);
        x.set(1, 1, 2);
        Due.is("an image of two", x.image(), 2);
        x.set(1, 1, 3);
        Due.is("another figure", x.alike(), 0);
        x.set(1, 1, 2);
        Due.is("as it was", x.alike(), 1);
        x.set(0, 0, 1);
        Due.is("another kind", x.alike(), 0);
        x.undo();
        Due.is("undone", x.alike(), 1);
        x.drop();
        x.come(8);
        x.set(1, 0, 4);
        x.set(1, 1, 2);
        Due.is("other sets are told", x.alike(), 0);
        x.cube(5);
        x.come(6);
        x.come(7);
        x.set(1, 0, 4);
        x.set(1, 1, 2);
        Due.is("another cube", x.alike(), 0);
        Due.is("back", x.back(), 2);
        Due.is("the cube", x.count(1), 4);
        Due.is("alike", x.alike(), 1);
        long[] is = {x.of(1, 0), x.of(1, 1), x.sets(1, 1), x.sets(0, 0)};
        Due.are("as it has them", is, 4, 2, 7, 6);
        x.set(0, 1, 9);
        Due.is("the image does not change with them", x.back(), 2);
        Due.is("its figure", x.of(0, 1), 0);
    }

    private static void count() {
        LeastShadows x = new LeastShadows();
        x.come(6);
        x.come(6);
        x.set(0, 0, 1);
        x.set(0, 0, 2);
        x.set(0, 0, 3);
        x.undo();
        x.feed('a');
        x.feed('a');
        x.write(1);
        x.shelf(2, 0, 0);
        x.list(1, 1, 4);
        x.list(2, 1, 4);
        long[] counts = {x.count(0), x.count(1), x.count(2), x.count(3), x.count(4), x.count(5), x.count(6), x.count(7)};
        Due.are("counts", counts, 2, 4, 2, 1, 2, 3, 1, 2);
        Due.is("count(8)", x.count(8), -1);
        Due.is("count(-1)", x.count(-1), -1);
    }
}
