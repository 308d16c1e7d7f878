/** One call again and again, as often as an object is used: the last answer is as due as the first. */
final class OftenEdges {
    private OftenEdges() { }

    static void test() {
        asked();
        cubesAndGrids();
        families();
        changes();
        undoneAndDoneAgain();
        tape();
        paper();
        shelves();
        shifted();
        lists();
        acts();
        image();
        rowsLeaveNothing();
        made();
        refused();
    }

    private static Story often(String what) {
        return new Story(what + " again and again", 1);
    }

    // ---- what is asked

    private static final String RICH = "come(6152)=0 come(65535)=1 come(3)=2 set(2,0,5)=0 set(2,1,7)=0 set(1,0,4)=0 set(1,1,2)=0"
        + " undo()=3 write(0)=9 list(0,0,3)=1 put(0,0,1)=1 shelf(1,0,2)=1 keep(1,1,0)=1 act(2,2,5)=-55 image()=3 grid(3,2)=44";

    /** Each with its answer in the state above. */
    private static final String[] ASKED = {"sets(0,0)=6152", "sets(0,2)=1822", "sets(0,3)=59520", "sets(0,4)=59286", "of(0,6)=10",
        "is(0,0)=0", "is(1,2)=1", "profile(0,2)=2", "pressed(0,0,2)=2568", "rounds(0)=2", "ordered(1,4)=8", "least(0,5,0)=6",
        "leastSets(1,4,0)=15", "meets(0,0,5)=0", "cascade(11,3,1)=2", "bound(2000000000,12)=928961178", "scaled(11,3,100)=1200",
        "cells(1,0)=2", "border(5)=42", "firstCells(1,4)=27", "leastCells(1,3)=3", "meetsCells(1,0,3)=1", "bits(0,1)=1075139925",
        "weight(0)=4603429419110541994", "judge(0,0)=0", "paper(8)=100", "kept(1,1)=6152", "get(0,0)=1", "trace(3)=41",
        "taken(2,2)=2", "taken(1,3)=0", "alike()=1", "count(3)=1", "sets(3,0)=VOID", "of(3,0)=-1", "kept(1,0)=VOID", "cascade(10,3,1)=-2",
        "scaled(11,3,1000000000)=-6", "judge(1,0)=-11", "taken(0,2)=-5"};

    private static void asked() {
        for (String call : ASKED) {
            Story story = often(call).tell(RICH);
            while (story.left() > 0) {
                story.tell(call);
            }
            story.end();
        }
        int[] due = new int[2];
        LeastShadows x = new LeastShadows();
        for (int i = 0; i < 256; i++) {
            int borders = x.lots(3, 50, 2026, 0);
            int edges = x.lots(3, 50, 2026, 1);
            due[0] = i == 0 ? borders : due[0];
            due[1] = i == 0 ? edges : due[1];
            Due.is("lots() again and again", borders, due[0]);
            Due.is("lots() again and again", edges, due[1]);
        }
    }

    // ---- the cube, the grid, families

    private static void cubesAndGrids() {
        Story cubes = often("cube()");
        Story grids = often("grid()");
        int n = 4;
        int sides = 44;
        while (cubes.left() > 0) {
            int next = (n * 5 + cubes.left()) % 6 + 1;
            cubes.is(n, "cube", next);
            n = next;
            grids.is(sides, "grid", 9 - next, next + cubes.left() % 3);
            sides = 10 * (9 - next) + next + cubes.left() % 3;
        }
        cubes.end();
        grids.end();
    }

    private static void families() {
        Story story = often("come() and drop()");
        while (story.left() >= 2) {
            story.tell("come(6)=0 drop()=0");
        }
        story.end();
        story = often("come() where it is FULL");
        for (int i = 0; i < 8; i++) {
            story.is(i, "come", 1 << i);
        }
        while (story.left() > 4) {
            story.tell("come(1)=-3");
        }
        story.tell("sets(7,1)=128 drop()=7 come(9)=7 sets(7,1)=9").end();
        story = often("first(), press() and drop()").tell("come(6144)=0");
        for (int m = 0; story.left() >= 5; m = (m + 1) % 17) {
            story.is(1, "first", 0, m).is((1L << m) - 1, "sets", 1, 0).is(1, "drop").is(1, "press", 0).is(1, "drop");
        }
        story.end();
    }

    // ---- changes

    private static void changes() {
        Story story = often("set()").tell("come(6)=0");
        int told = 0;
        while (story.left() > 29) {
            told++;
            story.is((told - 1) % 10, "set", 0, 1, told % 10);
        }
        story.tell("count(2)=12");
        for (int i = 11; i >= 0; i--) {
            story.is(i, "undo");
        }
        story.is((told - 12) % 10, "of", 0, 1).tell("undo()=-5 count(3)=12");
        for (int i = 11; i >= 0; i--) {
            story.is(i, "redo");
        }
        story.is(told % 10, "of", 0, 1).end();
        story = often("set() of what is so").tell("come(6)=0 set(0,1,3)=0 set(0,0,2)=0 undo()=1");
        while (story.left() > 3) {
            story.tell("set(0,1,3)=3 set(0,0,0)=0");
        }
        story.tell("redo()=0 undo()=1").end();
    }

    private static void undoneAndDoneAgain() {
        Story story = often("undo() and redo()").tell("come(6)=0 set(0,1,5)=0 set(0,0,3)=0");
        while (story.left() >= 6) {
            story.tell("undo()=1 undo()=0 undo()=-5 redo()=1 redo()=0 redo()=-5");
        }
        story.tell("of(0,0)=3 of(0,1)=5").end();
        story = often("twelve CHANGES and undo()").tell("come(6)=0");
        for (int turn = 0; story.left() >= 25; turn++) {
            for (int i = 0; i < 12; i++) {
                story.is(i == 0 ? 0 : i % 5 + (i < 5 ? 0 : 1), "set", 0, 1, (i + 1) % 5 + (i + 1 < 5 ? 0 : 1));
            }
            for (int i = 11; i >= 0; i--) {
                story.is(i, "undo");
            }
            story.tell("count(3)=12");
        }
        story.end();
        story = often("another one behind one that was UNDONE").tell("come(6)=0");
        while (story.left() >= 6) {
            story.tell("set(0,1,4)=0 undo()=0 set(0,0,2)=0 redo()=-5 undo()=0 of(0,1)=0");
        }
        story.end();
        story = often("come() and drop() behind a CHANGE").tell("come(6)=0");
        for (int v = 1; story.left() >= 6; v++) {
            story.is((v - 1) % 10, "set", 0, 1, v % 10).tell("count(2)=1 come(1)=1 count(2)=0 drop()=1 undo()=-5");
        }
        story.end();
    }

    // ---- the tape, the paper

    private static void tape() {
        Story story = often("feed()");
        for (int i = 1; story.left() > 4; i++) {
            story.is(i <= 80 ? i : -3, "feed", 'a' + i % 4);
        }
        story.tell("count(4)=80 wipe()=80 wipe()=0 feed(98)=1").end();
        story = often("feed() and read()");
        while (story.left() >= 12) {
            story.tell("feed(97)=1 feed(44)=2 feed(98)=3 feed(99)=4 read()=0 sets(0,1)=66 drop()=0 count(4)=0");
            story.tell("feed(98)=1 feed(97)=2 read()=-101 count(4)=0");
        }
        story.end();
        story = often("read() where it is FULL");
        for (int i = 0; i < 8; i++) {
            story.is(i, "come", i);
        }
        while (story.left() >= 6) {
            story.tell("feed(97)=1 read()=-3 count(4)=0 feed(44)=1 read()=-100 read()=-100");
        }
        story.end();
    }

    private static void paper() {
        Story story = often("write()").tell("come(65535)=0 come(2)=1 come(0)=2");
        while (story.left() >= 10) {
            story.tell("write(0)=48 paper(47)=100 paper(48)=-2 write(1)=1 paper(0)=97 paper(1)=-2 count(5)=1 write(3)=-1 write(2)=0 paper(0)=-2");
        }
        story.end();
    }

    // ---- shelves, lists

    private static void shelves() {
        Story story = often("shelf(), keep() and kept()").tell("come(6)=0 come(9)=1");
        while (story.left() >= 11) {
            story.tell("shelf(0,0,6)=1 kept(0,5)=VOID keep(0,5,0)=1 kept(0,5)=6 keep(0,5,1)=1 kept(0,5)=9");
            story.tell("like(2,0)=6 shelf(0,-1,0)=1 kept(2,5)=9 kept(0,5)=VOID count(6)=1");
        }
        story.end();
        story = often("keep() of what changes").tell("come(65535)=0 shelf(1,1,1)=1 set(0,0,3)=0");
        for (int figure = 1; story.left() >= 3; figure = (figure + 1) % 10) {
            story.is((figure + 9) % 10, "set", 0, 1, figure).is(1, "keep", 1, 0, 0).is(Made.ofSize(4, figure), "kept", 1, 0);
        }
        story.end();
    }

    /** Round and round: the first one comes behind the last one. */
    private static void shifted() {
        Story story = often("shift()").tell("shelf(0,0,6)=1 shelf(1,0,6)=1");
        for (int i = 0; i < 6; i++) {
            story.is(i, "come", 1 << i).is(1, "keep", 0, i, i);
        }
        for (int turn = 1; story.left() >= 5; turn++) {
            story.tell("shift(0,0,1,5,1)=1 shift(0,1,1,0,5)=5 shift(1,0,0,0,6)=6");
            story.is(1 << turn % 6, "kept", 0, 0).is(1 << (turn + 5) % 6, "kept", 0, 5);
        }
        story.end();
        story = often("shift() of its own").tell("come(6)=0 come(9)=1 shelf(2,0,4)=1");
        while (story.left() >= 8) {
            story.tell("keep(2,0,0)=1 keep(2,1,1)=1 shift(2,0,2,1,3)=3 kept(2,1)=6 kept(2,2)=9 shift(2,1,2,0,3)=3 kept(2,1)=9 kept(2,0)=6");
        }
        story.end();
    }

    private static void lists() {
        Story story = often("put() and get()").tell("list(0,0,20)=1 list(1,1,20)=1");
        for (long i = 0; story.left() >= 4; i++) {
            long v = i * 123456789123L;
            story.is(1, "put", 0, i % 20, v).is((int) v, "get", 0, i % 20).is(1, "put", 1, i % 20, v).is(v, "get", 1, i % 20);
        }
        story.end();
        story = often("list()");
        while (story.left() >= 7) {
            story.tell("list(2,0,20)=1 get(2,19)=0 put(2,19,7)=1 list(2,1,3)=1 get(2,19)=VOID put(2,19,7)=-13 count(7)=1");
        }
        story.end();
    }

    // ---- acts, the image

    private static void acts() {
        int[] first = {12, 12, 12, 12, 60, 40};
        Story story = often("act()").tell("come(6)=0");
        for (int i = 1; story.left() >= 4; i++) {
            int kind = i % 6;
            story.is((i - 1) % 6, "set", 0, 0, kind);
            story.is(kind == 2 ? -i : kind == 5 ? -3 * i : i, "act", 0, 0, i);
            story.tell("act(0,2," + i + ")").is(first[kind], "trace", 0);
        }
        story.end();
        story = often("act() that is BAD").tell("come(6)=0 act(0,1,4)=8");
        while (story.left() >= 6) {
            story.tell("act(1,0,1)=0 act(0,3,1)=0 act(-1,0,1)=0 trace(0)=11 trace(1)=10 trace(2)=-2");
        }
        story.end();
    }

    private static void image() {
        Story story = often("back()").tell("come(3)=0 image()=1");
        for (int i = 0; story.left() >= 6; i++) {
            story.is(0, "set", 0, 1, 1 + i % 9).tell("alike()=0 back()=1 alike()=1 of(0,1)=0 undo()=-5");
        }
        story.end();
        story = often("image()").tell("come(3)=0");
        for (int i = 1; story.left() >= 6; i++) {
            story.is((i - 1) % 10, "set", 0, 1, i % 10).tell("image()=1 alike()=1 cube(2) back()=1").is(i % 10, "of", 0, 1);
        }
        story.end();
        story = often("image() and CHANGES").tell("come(3)=0 set(0,1,1)=0 set(0,1,2)=1 undo()=1");
        while (story.left() >= 4) {
            story.tell("image()=1 count(2)=1 count(3)=1 alike()=1");
        }
        story.end();
    }

    /** A longer row that was asked ahead leaves nothing for a shorter one. */
    private static void rowsLeaveNothing() {
        Story story = often("cascade()");
        while (story.left() >= 4) {
            story.tell("cascade(12,12,11)=1 cascade(1,12,1)=-2 cascade(0,12,0)=-2 bound(0,12)=0");
        }
        story.end();
        story = often("ordered() of other cubes");
        while (story.left() >= 7) {
            story.tell("cube(6) ordered(1,63)=63 ordered(3,32)=32 cube(1)=6 ordered(1,1)=1 ordered(1,2)=-2 first(2,2)=0");
        }
        story.end();
        story = often("least() of other cubes");
        while (story.left() >= 8) {
            story.tell("cube(4) least(0,5,0)=6 leastSets(1,8,0)=255 cube(2)=4 least(0,5,0)=-1 leastSets(1,2,0)=3 cube(6)=2 least(1,1,0)=-5");
        }
        story.end();
        story = often("firstCells() of other grids");
        while (story.left() >= 6) {
            story.tell("grid(8,8) firstCells(2,64)=-1 grid(2,2)=88 firstCells(1,2)=5 firstCells(2,5)=VOID leastCells(0,1)=2");
        }
        story.end();
    }

    // ---- the same call nearly as often as an object is used, and then what it does once more

    private static void oftenThen(String begun, String many, String then) {
        Story story = often(many).tell(begun);
        int last = then.split("\\s+").length;
        int each = many.split("\\s+").length;
        while (story.left() >= last + each) {
            story.tell(many);
        }
        story.tell(then).end();
    }

    private static void made() {
        oftenThen("come(6)=0", "cube(4)=4", "cube(5)=4 count(0)=0 count(1)=5 come(65536)=0");
        oftenThen("come(6)=0", "press(0)=1 drop()=1", "set(0,0,1)=0 press(0)=1 sets(1,0)=65263 drop()=1");
        oftenThen("come(6)=0", "first(1,5)=1 drop()=1", "first(3,3)=1 sets(1,0)=7 drop()=1");
        oftenThen("grid(3,2)=44", "grid(3,2)=32", "grid(2,5)=32 border(1)=6 grid(1,1)=25");
        oftenThen("feed(97)=1", "wipe()", "feed(98)=1 feed(99)=2 wipe()=2 count(4)=0");
        oftenThen("come(6)=0", "write(0)=3", "set(0,0,2)=0 write(0)=7 paper(6)=100 count(5)=7");
        oftenThen("come(6)=0 set(0,1,1)=0", "image()=1", "set(0,1,7)=1 image()=1 set(0,1,2)=7 alike()=0 back()=1 of(0,1)=7 undo()=-5");
        oftenThen("come(6)=0 image()=1", "back()=1", "set(0,1,7)=0 come(9)=1 cube(2)=4 back()=1 of(0,1)=0 sets(0,1)=6 count(1)=4 undo()=-5");
        oftenThen("come(6)=0 image()=1", "alike()=1", "set(0,1,7)=0 alike()=0 undo()=0 alike()=1");
        oftenThen("come(6)=0 shelf(0,0,6)=1", "shelf(1,2,3)=1", "shelf(1,1,2)=1 keep(1,0,0)=-12 shelf(1,0,2)=1 keep(1,1,0)=1 keep(1,2,0)=-13 count(6)=2");
        oftenThen("come(6)=0 come(9)=1 shelf(0,0,2)=1", "keep(0,1,0)=1", "keep(0,0,0)=1 keep(0,1,1)=1 kept(0,0)=6 kept(0,1)=9");
        oftenThen("come(6)=0 shelf(0,0,2)=1 shelf(1,1,6)=1", "like(1,0)=2", "keep(0,1,0)=1 like(1,0)=2 kept(1,1)=6 keep(0,0,0)=1 kept(1,0)=VOID");
        oftenThen("come(6)=0 shelf(0,0,2)=1 shelf(1,0,6)=1", "shift(0,0,1,3,2)=2", "keep(0,1,0)=1 shift(0,0,1,4,2)=2 kept(1,5)=6 kept(1,4)=VOID");
        oftenThen("list(0,0,3)=1", "list(1,1,20)=1", "list(1,0,2)=1 put(1,1,4294967297)=1 get(1,1)=1 get(1,2)=VOID count(7)=2");
        oftenThen("list(2,1,3)=1", "put(2,0,5)=1", "put(2,0,6)=1 put(2,2,7)=1 get(2,0)=6 get(2,1)=0 get(2,2)=7");
        oftenThen("come(6)=0 set(0,0,5)=0", "act(0,2,1)=-12", "act(0,0,4)=-12 trace(0)=41 trace(1)=30 trace(2)=10 trace(3)=-2");
        oftenThen("come(6)=0 set(0,0,5)=0", "set(0,0,5)=5", "set(0,0,4)=5 undo()=1 undo()=0 of(0,0)=0 redo()=1 redo()=0 of(0,0)=4");
    }

    private static void refused() {
        oftenThen("come(6)=0", "undo()=-5", "set(0,1,3)=0 undo()=0 of(0,1)=0 redo()=0 of(0,1)=3");
        oftenThen("come(6)=0", "redo()=-5", "set(0,1,3)=0 undo()=0 redo()=0 of(0,1)=3 undo()=0");
        oftenThen("wipe()=0", "drop()=-5", "come(6)=0 come(9)=1 drop()=1 drop()=0");
        oftenThen("wipe()=0", "read()=-100", "feed(97)=1 read()=0 sets(0,1)=2");
        oftenThen("wipe()=0", "alike()=-5 back()=-5", "image()=0 alike()=1 back()=0");
        oftenThen("wipe()=0", "feed(31)=-1", "feed(32)=1 feed(126)=2 wipe()=2");
        oftenThen("wipe()=0", "come(65536)=-1", "come(32768)=0 write(0)=4");
        oftenThen("wipe()=0", "cube(7)=-1", "cube(6)=4 come(-1)=0 of(0,2)=64");
        oftenThen("wipe()=0", "grid(0,9)=-1", "grid(8,8)=44 border(VOID)=4647714815446351872");
        oftenThen("come(6)=0", "set(0,0,6)=-1 set(0,1,10)=-1", "set(0,0,1)=0 sets(0,0)=65529 count(2)=1");
        oftenThen("come(6)=0", "press(1)=-1 first(4,1)=-1", "press(0)=1 first(2,2)=2 count(0)=3");
        oftenThen("come(6)=0 write(0)=3", "write(1)=-1", "count(5)=3 set(0,0,3)=0 write(0)=0 paper(0)=-2");
        oftenThen("come(6)=0", "keep(0,0,0)=-11", "shelf(0,0,1)=1 keep(0,0,0)=1 kept(0,0)=6");
        oftenThen("come(6)=0 shelf(0,1,1)=1", "keep(0,0,0)=-12", "set(0,0,3)=0 set(0,1,1)=0 keep(0,0,0)=1 kept(0,0)=6");
        oftenThen("come(6)=0", "like(0,1)=-11 shift(0,0,1,0,0)=-11", "shelf(1,0,1)=1 keep(1,0,0)=1 like(0,1)=1 shift(1,0,0,0,1)=1 kept(0,0)=6");
        oftenThen("come(6)=0", "shelf(0,0,-1)=-14 shelf(0,0,7)=-1", "shelf(0,0,6)=1 keep(0,5,0)=1 kept(0,5)=6");
        oftenThen("come(6)=0", "list(0,0,-1)=-14 list(0,0,21)=-1", "list(0,0,20)=1 put(0,19,3)=1 get(0,19)=3");
        oftenThen("come(6)=0", "put(0,0,1)=-11 judge(0,0)=-11", "list(0,0,5)=1 judge(0,0)=1 put(0,1,2)=1 judge(0,0)=-2");
        oftenThen("come(6)=0 act(0,1,1)=2", "act(0,3,1)=0", "trace(0)=11 act(0,0,1)=1 trace(0)=10 trace(1)=-2");
        String eight = "come(6)=0 come(1)=1 come(2)=2 come(4)=3 come(8)=4 come(16)=5 come(32)=6 come(64)=7";
        oftenThen(eight, "first(1,5)=-3", "drop()=7 first(1,5)=7 sets(7,0)=279");
        oftenThen(eight, "press(7)=-3", "drop()=7 press(0)=7 sets(7,0)=6");
        oftenThen(eight, "feed(97)=1 read()=-3", "drop()=7 feed(97)=1 read()=7 sets(7,0)=2");
        oftenThen(eight, "come(64)=-3", "drop()=7 come(3)=7 sets(7,0)=3");
        oftenThen("come(6)=0", "taken(0,2)=-5", "set(0,0,5)=0 taken(0,2)=0 taken(0,5)=0");
    }
}
