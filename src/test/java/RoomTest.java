import java.lang.management.ManagementFactory;
import java.util.function.Supplier;
import java.util.function.ToLongFunction;

/** All calls of a run live in one room: a new object is small, and a call makes one small object at most. */
public final class RoomTest {
    private static final com.sun.management.ThreadMXBean ROOM = (com.sun.management.ThreadMXBean) ManagementFactory.getThreadMXBean();
    private static final int CALLS = 400;
    private static final int BYTES_OF_A_CALL = 48;
    private static final int BYTES_OF_AN_OBJECT = 8192;

    private static LeastShadows last;
    private static long answers;

    public static void main(String[] args) {
        newObjects();
        asked();
        made();
        Due.end();
    }

    private static long taken() {
        return ROOM.getCurrentThreadAllocatedBytes();
    }

    private static void newObjects() {
        last = new LeastShadows();
        long before = taken();
        last = new LeastShadows();
        long bytes = taken() - before;
        Due.holds("a new object takes " + bytes + " bytes", bytes <= BYTES_OF_AN_OBJECT);
    }

    /** As often as an object is used, behind once for what the machine itself makes the first time. */
    private static void room(String call, Supplier<LeastShadows> state, ToLongFunction<LeastShadows> made) {
        answers += made.applyAsLong(state.get());
        LeastShadows x = state.get();
        long before = taken();
        for (int i = 0; i < CALLS; i++) {
            answers += made.applyAsLong(x);
        }
        long bytes = (taken() - before) / CALLS;
        Due.holds(call + " takes " + bytes + " bytes", bytes <= BYTES_OF_A_CALL);
    }

    private static LeastShadows six() {
        return Made.cube(6, -1, 0x9C3E15B7A24D8F60L);
    }

    private static void asked() {
        for (int what = 0; what <= 6; what++) {
            int w = what;
            room("of(1, " + what + ")", RoomTest::six, x -> x.of(1, w) + x.sets(1, w) + x.is(1, w));
        }
        room("profile()", RoomTest::six, x -> x.profile(1, 3));
        room("pressed(), rounds()", RoomTest::six, x -> x.pressed(1, 0, 5) + x.rounds(1));
        room("ordered()", RoomTest::six, x -> x.ordered(3, 63));
        room("least()", LeastShadows::new, x -> x.least(0, 8, 0));
        room("leastSets()", RoomTest::six, x -> x.leastSets(2, 7, 2));
        room("meets()", LeastShadows::new, x -> x.meets(1, 1, 8));
        room("cascade()", LeastShadows::new, x -> x.cascade(2000000000, 12, 0));
        room("scaled()", LeastShadows::new, x -> x.scaled(2000000000, 12, 2) + x.bound(2000000000, 12));
        room("cells()", LeastShadows::new, x -> x.cells(0x0660, 0) + x.border(0x0660) + x.firstCells(2, 7));
        room("leastCells()", LeastShadows::new, x -> x.leastCells(0, 8));
        room("meetsCells()", LeastShadows::new, x -> x.meetsCells(1, 1, 8));
        room("bits(), weight()", RoomTest::six, x -> x.bits(1, 1) + x.weight(1));
        room("judge()", States::full, x -> x.judge(0, 7));
        room("lots()", RoomTest::six, x -> x.lots(20, 50, 3, 1));
        room("paper(), kept(), get()", States::full, x -> x.paper(9) + x.kept(0, 5) + x.get(1, 19));
        room("trace(), taken(), alike(), count()", States::full, x -> x.trace(1) + x.taken(7, 3) + x.alike() + x.count(6));
    }

    private static void made() {
        room("cube()", RoomTest::six, x -> x.cube(5));
        room("come(), drop()", LeastShadows::new, x -> x.come(6) + x.drop());
        room("press()", RoomTest::six, x -> x.press(1) + x.drop());
        room("first()", RoomTest::six, x -> x.first(1, 40) + x.drop());
        room("set()", RoomTest::six, x -> x.set(1, 1, 1 + (x.of(1, 1) + 1) % 9));
        room("undo(), redo()", States::full, x -> x.undo() + x.redo());
        room("grid()", LeastShadows::new, x -> x.grid(8, 8));
        room("feed(), read()", LeastShadows::new, x -> x.feed('a') + x.read() + x.drop());
        room("feed(), wipe()", LeastShadows::new, x -> x.feed('a') + x.wipe());
        room("write()", RoomTest::six, x -> x.write(0));
        room("shelf(), keep()", RoomTest::six, x -> x.shelf(0, 0, 6) + x.keep(0, 5, 1));
        room("like(), shift()", States::full, x -> x.like(0, 1) + x.shift(0, 0, 0, 1, 5));
        room("list(), put()", LeastShadows::new, x -> x.list(0, 1, 20) + x.put(0, 19, 7));
        room("act()", States::full, x -> x.act(7, 2, 9));
        room("image(), back()", States::full, x -> x.image() + x.back());
    }
}
