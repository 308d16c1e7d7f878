/** Promises 1 to 9: a new object, the cube, families. */
public final class CubeTest {
    public static void main(String[] args) {
        newObject();
        cube();
        comeAndDrop();
        set();
        kinds();
        setsAndOf();
        is();
        profile();
        Due.end();
    }

    private static void newObject() {
        LeastShadows x = new LeastShadows();
        Due.is("new: families", x.count(0), 0);
        Due.is("new: n", x.count(1), 4);
        for (int what = 2; what <= 7; what++) {
            Due.is("new: count " + what, x.count(what), 0);
        }
        Due.is("new: the grid", x.grid(2, 3), 44);
        Due.is("new: paper", x.paper(0), -2);
        Due.is("new: trace", x.trace(0), -2);
        Due.is("new: shelf", x.kept(0, 0), LeastShadows.VOID);
        Due.is("new: list", x.get(0, 0), LeastShadows.VOID);
    }

    private static void cube() {
        LeastShadows x = new LeastShadows();
        Due.is("cube(0)", x.cube(0), -1);
        Due.is("cube(7)", x.cube(7), -1);
        Due.is("cube(least int)", x.cube(Integer.MIN_VALUE), -1);
        x.come(1);
        x.set(0, 1, 3);
        Due.is("a refused cube takes nothing away", x.cube(-1), -1);
        Due.is("families", x.count(0), 1);
        Due.is("changes", x.count(2), 1);
        Due.is("cube(4) as before", x.cube(4), 4);
        Due.is("families are gone", x.count(0), 0);
        Due.is("changes are gone", x.count(2), 0);
        Due.is("cube(1)", x.cube(1), 4);
        Due.is("two sets", x.come(3), 0);
        Due.is("no third", x.come(4), -1);
        Due.is("cube(6)", x.cube(6), 1);
        Due.is("64 sets", x.come(-1), 0);
        Due.is("n", x.count(1), 6);
    }

    private static void comeAndDrop() {
        LeastShadows x = new LeastShadows();
        Due.is("drop() of none", x.drop(), -5);
        for (int i = 0; i < 8; i++) {
            Due.is("come", x.come(i), i);
        }
        Due.is("a ninth", x.come(1), -3);
        Due.is("BAD is ahead of FULL", x.come(65536), -1);
        Due.is("all sets", x.sets(7, 0), 7);
        Due.is("drop()", x.drop(), 7);
        Due.is("the last went", x.sets(7, 0), LeastShadows.VOID);
        Due.is("the others stay", x.sets(6, 0), 6);
        Due.is("its number comes again", x.come(65535), 7);
        Due.is("kind", x.of(7, 0), 0);
        Due.is("figure", x.of(7, 1), 0);
        x.cube(5);
        Due.is("32 sets", x.come(0xFFFFFFFFL), 0);
        Due.is("a bit beyond", x.come(0x100000000L), -1);
        Due.is("the sign is one beyond", x.come(Long.MIN_VALUE), -1);
    }

    private static void set() {
        LeastShadows x = new LeastShadows();
        Due.is("no family", x.set(0, 0, 0), -1);
        x.come(6);
        Due.is("kind", x.set(0, 0, 5), 0);
        Due.is("figure", x.set(0, 1, 9), 0);
        Due.is("kind again", x.set(0, 0, 1), 5);
        Due.is("figure again", x.set(0, 1, 9), 9);
        long[] bad = {x.set(-1, 0, 0), x.set(1, 0, 0), x.set(0, -1, 0), x.set(0, 2, 0), x.set(0, 0, 6),
            x.set(0, 0, -1), x.set(0, 1, 10), x.set(0, 1, -1)};
        Due.are("bad set()", bad, -1, -1, -1, -1, -1, -1, -1, -1);
        Due.is("kind stands", x.of(0, 0), 1);
        Due.is("figure stands", x.of(0, 1), 9);
        Due.is("told stands", x.sets(0, 1), 6);
    }

    /** Told are 0, a, bc and abcd of a cube of four; then kinds at the ends of the cubes. */
    private static void kinds() {
        LeastShadows x = new LeastShadows();
        x.come(1L | 1L << 1 | 1L << 6 | 1L << 15);
        long told = x.sets(0, 1);
        x.set(0, 0, 1);
        Due.is("OTHERS", x.sets(0, 0), 65535 & ~told);
        x.set(0, 0, 2);
        Due.is("TURNED", x.sets(0, 0), 1L << 15 | 1L << 14 | 1L << 9 | 1);
        x.set(0, 0, 5);
        Due.is("MIRRORED", x.sets(0, 0), 1L << 15 | 1L << 7 | 1L << 9 | 1);
        x.set(0, 0, 3);
        Due.is("LEVEL of 0", x.sets(0, 0), 1);
        x.set(0, 1, 2);
        Due.is("LEVEL of 2", x.sets(0, 0), 1L << 6);
        x.set(0, 0, 4);
        Due.is("BELOW of 2", x.sets(0, 0), 1L << 6 | 1L << 4 | 1L << 2 | 1);
        x.set(0, 1, 4);
        Due.is("BELOW of 4", x.sets(0, 0), 65535);
        x.set(0, 1, 9);
        Due.is("BELOW of 9", x.sets(0, 0), 0);
        Due.is("told stays", x.sets(0, 1), told);
        x.come(1L << 8);
        x.set(1, 0, 5);
        Due.is("MIRRORED of d: of abc", x.sets(1, 0), 1L << 14);
        x.cube(6);
        x.come(Long.MIN_VALUE);
        x.set(0, 0, 1);
        Due.is("OTHERS of 64", x.sets(0, 0), Long.MAX_VALUE);
        x.set(0, 0, 5);
        Due.is("MIRRORED of abcdef", x.sets(0, 0), 1);
        x.come(1L << 3);
        x.set(1, 0, 5);
        Due.is("MIRRORED of ab", x.sets(1, 0), 1L << 15);
    }

    /** ab, cd, abd of a cube of four. */
    private static void setsAndOf() {
        LeastShadows x = new LeastShadows();
        x.come(1L << 3 | 1L << 12 | 1L << 11);
        long[] sets = {x.sets(0, 0), x.sets(0, 1), x.sets(0, 2), x.sets(0, 3), x.sets(0, 4)};
        Due.are("sets", sets, 6152, 6152, 1822, 59520, 59286);
        long[] of = {x.of(0, 0), x.of(0, 1), x.of(0, 2), x.of(0, 3), x.of(0, 4), x.of(0, 5), x.of(0, 6)};
        Due.are("of", of, 0, 0, 3, 7, 5, 10, 10);
        long[] bad = {x.sets(1, 0), x.sets(-1, 0), x.sets(0, 5), x.sets(0, -1)};
        long none = LeastShadows.VOID;
        Due.are("bad sets()", bad, none, none, none, none);
        long[] badOf = {x.of(1, 0), x.of(-1, 0), x.of(0, 7), x.of(0, -1)};
        Due.are("bad of()", badOf, -1, -1, -1, -1);
        x.cube(6);
        x.come(-1);
        x.come(1L << 63);
        Due.is("edges of all", x.of(0, 6), 0);
        Due.is("border of all", x.of(0, 5), 0);
        Due.is("edges of one", x.of(1, 6), 6);
        Due.is("upper shadow of the greatest", x.of(1, 4), 0);
        Due.is("its shadow", x.of(1, 3), 6);
        x.come(1);
        Due.is("shadow of the empty set", x.sets(2, 2), 0);
        Due.is("its upper shadow", x.of(2, 4), 6);
    }

    private static void is() {
        LeastShadows x = new LeastShadows();
        x.come(0);
        long[] none = {x.is(0, 0), x.is(0, 1), x.is(0, 2), x.is(0, 3)};
        Due.are("is, of no sets", none, 1, 1, 1, 1);
        x.come(1);
        long[] empty = {x.is(1, 0), x.is(1, 1), x.is(1, 2), x.is(1, 3)};
        Due.are("is, of the empty set", empty, 1, 0, 1, 1);
        x.come(1L << 3 | 1L << 5 | 1L << 6);
        long[] pairs = {x.is(2, 0), x.is(2, 1), x.is(2, 2), x.is(2, 3)};
        Due.are("is, of ab, ac, bc", pairs, 1, 1, 0, 1);
        x.come(1L << 1 | 1L << 7);
        long[] chain = {x.is(3, 0), x.is(3, 1), x.is(3, 2), x.is(3, 3)};
        Due.are("is, of a, abc", chain, 0, 1, 0, 1);
        x.come(1 | 1L << 1 | 1L << 4 | 1L << 5);
        long[] down = {x.is(4, 0), x.is(4, 1), x.is(4, 2), x.is(4, 3)};
        Due.are("is, of 0, a, c, ac", down, 0, 0, 1, 0);
        x.come(1L << 1 | 1L << 2);
        Due.is("a, b are an antichain", x.is(5, 0), 1);
        Due.is("a, b have nothing in common", x.is(5, 1), 0);
        Due.is("a, b lack the empty set", x.is(5, 2), 0);
        Due.is("b alone is not at rest by a, b", x.come(1L << 2), 6);
        Due.is("b alone", x.is(6, 3), 0);
        x.drop();
        long[] bad = {x.is(6, 0), x.is(-1, 0), x.is(0, 4), x.is(0, -1)};
        Due.are("bad is()", bad, -1, -1, -1, -1);
    }

    private static void profile() {
        LeastShadows x = new LeastShadows();
        x.come(65535);
        long[] all = {x.profile(0, 0), x.profile(0, 1), x.profile(0, 2), x.profile(0, 3), x.profile(0, 4)};
        Due.are("profile of all", all, 1, 4, 6, 4, 1);
        long[] bad = {x.profile(0, 5), x.profile(0, -1), x.profile(1, 0), x.profile(-1, 0)};
        Due.are("bad profile()", bad, -1, -1, -1, -1);
        x.set(0, 1, 2);
        x.set(0, 0, 3);
        Due.is("profile by the kind", x.profile(0, 1), 0);
        Due.is("profile by the kind", x.profile(0, 2), 6);
    }
}
