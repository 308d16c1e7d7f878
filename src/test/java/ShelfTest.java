/** Promises 36 to 43: shelves, lists. */
public final class ShelfTest {
    private static final long NONE = LeastShadows.VOID;

    public static void main(String[] args) {
        shelf();
        keep();
        kept();
        like();
        shift();
        shiftWithin();
        lists();
        Due.end();
    }

    private static void shelf() {
        LeastShadows x = new LeastShadows();
        long[] bad = {x.shelf(-1, 0, 1), x.shelf(3, 0, 1), x.shelf(0, -2, 1), x.shelf(0, 3, 1), x.shelf(0, 0, 7), x.shelf(0, 3, -1), x.shelf(0, 0, -1)};
        Due.are("refused shelf()", bad, -1, -1, -1, -1, -1, -1, -14);
        Due.is("none is there", x.count(6), 0);
        Due.is("no places", x.shelf(0, 0, 0), 1);
        Due.is("six places", x.shelf(1, 2, 6), 1);
        Due.is("two are there", x.count(6), 2);
        x.come(5);
        x.set(0, 0, 2);
        Due.is("kept", x.keep(1, 5, 0), 1);
        Due.is("kept in the first place", x.keep(1, 0, 0), 1);
        Due.is("a new row is empty", x.shelf(1, 2, 6), 1);
        Due.is("empty", x.kept(1, 5), NONE);
        Due.is("empty in the first place", x.kept(1, 0), NONE);
        x.keep(1, 5, 0);
        Due.is("a refused one leaves it", x.shelf(1, 2, -1), -14);
        Due.is("it stands", x.kept(1, 5), 40960);
        Due.is("missing, n does not matter", x.shelf(1, -1, -99), 1);
        Due.is("missing again", x.shelf(1, -1, 99), 1);
        Due.is("one is there", x.count(6), 1);
    }

    private static void keep() {
        LeastShadows x = new LeastShadows();
        x.come(6);
        long[] bad = {x.keep(-1, 0, 0), x.keep(3, 0, 0), x.keep(0, 0, 1), x.keep(0, 0, -1), x.keep(0, 0, 0)};
        Due.are("bad keep()", bad, -1, -1, -1, -1, -11);
        x.shelf(0, 0, 2);
        x.shelf(1, 1, 2);
        x.shelf(2, 2, 2);
        long[] outside = {x.keep(0, -1, 0), x.keep(0, 2, 0), x.keep(1, 2, 0), x.keep(0, Integer.MAX_VALUE, 0)};
        Due.are("outside", outside, -13, -13, -13, -13);
        long[] level = new long[6];
        long[] turned = new long[6];
        long[] any = new long[6];
        for (int kind = 0; kind < 6; kind++) {
            x.set(0, 0, kind);
            any[kind] = x.keep(0, 1, 0);
            level[kind] = x.keep(1, 1, 0);
            turned[kind] = x.keep(2, 1, 0);
        }
        Due.are("any", any, 1, 1, 1, 1, 1, 1);
        Due.are("levels", level, -12, -12, -12, 1, 1, -12);
        Due.are("turned ones", turned, -12, -12, 1, -12, -12, 1);
    }

    private static void kept() {
        LeastShadows x = new LeastShadows();
        x.shelf(0, 0, 6);
        x.come(1L | 1L << 1 | 1L << 6 | 1L << 15);
        for (int kind = 0; kind < 6; kind++) {
            x.set(0, 0, kind);
            x.set(0, 1, 2);
            x.keep(0, kind, 0);
        }
        x.set(0, 1, 0);
        x.drop();
        long[] now = {x.kept(0, 0), x.kept(0, 1), x.kept(0, 2), x.kept(0, 3), x.kept(0, 4), x.kept(0, 5)};
        Due.are("as they were", now, 32835, 32700, 49665, 64, 85, 33409);
        x.cube(2);
        long[] less = {x.kept(0, 0), x.kept(0, 1), x.kept(0, 2), x.kept(0, 3), x.kept(0, 4), x.kept(0, 5)};
        Due.are("on a lesser cube", less, 3, 12, 12, 0, 0, 10);
        x.cube(6);
        Due.is("others on a greater cube", x.kept(0, 1), ~32835L);
        Due.is("turned on a greater cube", x.kept(0, 2), Long.MIN_VALUE | 1L << 62 | 1L << 57 | 1L << 48);
        long[] none = {x.kept(-1, 0), x.kept(3, 0), x.kept(1, 0), x.kept(0, -1), x.kept(0, 6)};
        Due.are("none", none, NONE, NONE, NONE, NONE, NONE);
    }

    private static void like() {
        LeastShadows x = new LeastShadows();
        long[] bad = {x.like(0, 0), x.like(-1, 0), x.like(0, 3), x.like(0, 1), x.like(3, 3)};
        Due.are("refused like()", bad, -1, -1, -1, -11, -1);
        x.come(6);
        x.set(0, 0, 2);
        x.shelf(1, 2, 3);
        x.keep(1, 1, 0);
        Due.is("a missing one becomes like it", x.like(0, 1), 3);
        long[] row = {x.kept(0, 0), x.kept(0, 1), x.kept(0, 2), x.kept(0, 3)};
        Due.are("its row", row, NONE, 24576, NONE, NONE);
        x.set(0, 0, 3);
        Due.is("of its sort", x.keep(0, 0, 0), -12);
        x.set(0, 0, 5);
        Due.is("each its own row", x.keep(0, 0, 0), 1);
        Due.is("the other one stays", x.kept(1, 0), NONE);
        x.keep(1, 0, 0);
        x.like(0, 1);
        Due.is("the first place, too", x.kept(0, 0), x.kept(1, 0));
        x.shelf(1, 0, 0);
        Due.is("no places", x.like(0, 1), 0);
        Due.is("nothing there", x.kept(0, 1), NONE);
    }

    private static void shift() {
        LeastShadows x = new LeastShadows();
        Due.is("missing", x.shift(0, 0, 1, 0, 0), -11);
        x.shelf(0, 0, 4);
        long[] bad = {x.shift(-1, 0, 0, 0, 0), x.shift(0, 0, 3, 0, 0), x.shift(0, 0, 1, -1, 0), x.shift(1, 9, 0, 0, 0)};
        Due.are("bad, missing", bad, -1, -1, -11, -11);
        x.shelf(1, 2, 3);
        x.come(6);
        x.set(0, 0, 2);
        x.keep(0, 0, 0);
        x.set(0, 0, 5);
        x.keep(0, 2, 0);
        x.set(0, 0, 0);
        x.keep(0, 3, 0);
        long[] outside = {x.shift(0, -1, 1, 0, 1), x.shift(0, 0, 1, -1, 1), x.shift(0, 0, 1, 0, -1), x.shift(0, 2, 1, 0, 3),
            x.shift(0, 0, 1, 1, 3), x.shift(0, 5, 1, 0, 0), x.shift(0, 1, 1, 0, Integer.MAX_VALUE), x.shift(0, Integer.MAX_VALUE, 1, 0, 1)};
        Due.are("outside", outside, -13, -13, -13, -13, -13, -13, -13, -13);
        Due.is("none, at both ends", x.shift(0, 4, 1, 3, 0), 0);
        Due.is("three, an empty one too", x.shift(0, 0, 1, 0, 3), 3);
        long[] row = {x.kept(1, 0), x.kept(1, 1), x.kept(1, 2)};
        Due.are("came", row, 24576, NONE, 1 << 11 | 1 << 7);
        Due.is("the fourth may not", x.shift(0, 1, 1, 0, 3), -12);
        long[] part = {x.kept(1, 0), x.kept(1, 1), x.kept(1, 2)};
        Due.are("what stands ahead came", part, NONE, x.kept(0, 2), row[2]);
        Due.is("-13 ahead of -12", x.shift(0, 3, 1, 3, 1), -13);
        Due.is("from a sort to any", x.shift(1, 1, 0, 3, 1), 1);
        Due.is("came", x.kept(0, 3), row[2]);
    }

    private static void fill(LeastShadows x) {
        x.shelf(0, 0, 5);
        for (int i = 0; i < 5; i++) {
            x.keep(0, i, i);
        }
    }

    private static void shiftWithin() {
        LeastShadows x = new LeastShadows();
        for (int i = 0; i < 5; i++) {
            x.come(i + 10);
        }
        fill(x);
        Due.is("up", x.shift(0, 0, 0, 1, 4), 4);
        long[] up = {x.kept(0, 0), x.kept(0, 1), x.kept(0, 2), x.kept(0, 3), x.kept(0, 4)};
        Due.are("as they were", up, 10, 10, 11, 12, 13);
        fill(x);
        Due.is("down", x.shift(0, 2, 0, 0, 3), 3);
        long[] down = {x.kept(0, 0), x.kept(0, 1), x.kept(0, 2), x.kept(0, 3), x.kept(0, 4)};
        Due.are("as they were", down, 12, 13, 14, 13, 14);
    }

    private static void lists() {
        LeastShadows x = new LeastShadows();
        long[] bad = {x.list(-1, 0, 1), x.list(3, 0, 1), x.list(0, -2, 1), x.list(0, 2, 1), x.list(0, 0, 21), x.list(0, 2, -1), x.list(0, 0, -1)};
        Due.are("refused list()", bad, -1, -1, -1, -1, -1, -1, -14);
        Due.is("none is there", x.count(7), 0);
        Due.is("missing", x.put(0, 0, 1), -11);
        Due.is("bad", x.put(3, 0, 1), -1);
        Due.is("bad", x.put(-1, 0, 1), -1);
        Due.is("ints", x.list(0, 0, 20), 1);
        Due.is("longs", x.list(2, 1, 2), 1);
        Due.is("two are there", x.count(7), 2);
        long[] outside = {x.put(0, 20, 1), x.put(0, -1, 1), x.put(2, 2, 1)};
        Due.are("outside", outside, -13, -13, -13);
        long[] fresh = {x.get(0, 0), x.get(0, 19), x.get(2, 1)};
        Due.are("all 0", fresh, 0, 0, 0);
        long v = 5L << 32 | 0x80000001L;
        Due.is("put an int", x.put(0, 19, v), 1);
        Due.is("its lowest 32 bits", x.get(0, 19), (int) v);
        Due.is("put a long", x.put(2, 1, v), 1);
        Due.is("all bits", x.get(2, 1), v);
        long[] none = {x.get(-1, 0), x.get(3, 0), x.get(1, 0), x.get(0, 20), x.get(0, -1)};
        Due.are("none", none, NONE, NONE, NONE, NONE, NONE);
        Due.is("a refused one leaves it", x.list(0, 0, -5), -14);
        Due.is("it stands", x.get(0, 19), (int) v);
        x.put(0, 0, 8);
        Due.is("anew", x.list(0, 1, 20), 1);
        Due.is("all 0", x.get(0, 19), 0);
        Due.is("all 0, the first, too", x.get(0, 0), 0);
        Due.is("missing, n does not matter", x.list(0, -1, -5), 1);
        Due.is("it is none", x.get(0, 0), NONE);
        Due.is("one is there", x.count(7), 1);
        Due.is("no numbers", x.list(1, 0, 0), 1);
        Due.is("no place", x.put(1, 0, 1), -13);
    }
}
