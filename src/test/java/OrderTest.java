/** Promises 13 to 17: orders, least ones. */
public final class OrderTest {
    public static void main(String[] args) {
        ordered();
        first();
        least();
        meets();
        Due.end();
    }

    private static void row(LeastShadows x, int order, long... want) {
        long[] got = new long[want.length];
        for (int k = 0; k < want.length; k++) {
            got[k] = x.ordered(order, k);
        }
        Due.are("order " + order, got, want);
    }

    private static void ordered() {
        LeastShadows x = new LeastShadows();
        row(x, 0, 0, 1, 2, 3, 4, 5, 6, 7, 8, 9, 10, 11, 12, 13, 14, 15, -2);
        row(x, 1, 0, 1, 2, 4, 8, 3, 5, 9, 6, 10, 12, 7, 11, 13, 14, 15, -2);
        row(x, 2, 0, 1, 2, 4, 8, 3, 5, 6, 9, 10, 12, 7, 11, 13, 14, 15, -2);
        row(x, 3, 0, 1, 2, 4, 3, 5, 6, 7, 8, 9, 10, 12, 11, 13, 14, 15, -2);
        long[] bad = {x.ordered(4, 0), x.ordered(-1, 0), x.ordered(4, 99), x.ordered(0, -1), x.ordered(0, Integer.MIN_VALUE)};
        Due.are("refused ordered()", bad, -1, -1, -1, -2, -2);
        x.cube(1);
        row(x, 3, 0, 1, -2);
        x.cube(6);
        Due.is("the last of 64", x.ordered(1, 63), 63);
        Due.is("none behind", x.ordered(1, 64), -2);
    }

    private static void first() {
        LeastShadows x = new LeastShadows();
        x.come(1);
        x.set(0, 0, 1);
        long[] bad = {x.first(-1, 1), x.first(4, 1), x.first(0, -1), x.first(0, 17)};
        Due.are("bad first()", bad, -1, -1, -1, -1);
        Due.is("changes stay", x.count(2), 1);
        Due.is("first", x.first(1, 5), 1);
        Due.is("0, a, b, c, d", x.sets(1, 0), 279);
        Due.is("no changes are left", x.count(2), 0);
        Due.is("first none", x.first(3, 0), 2);
        Due.is("no sets", x.sets(2, 0), 0);
        Due.is("first all", x.first(2, 16), 3);
        Due.is("all sets", x.sets(3, 0), 65535);
        for (int i = 4; i < 8; i++) {
            x.first(0, i);
        }
        Due.is("FULL", x.first(0, 1), -3);
        Due.is("BAD ahead of FULL", x.first(0, 17), -1);
        x.cube(6);
        x.first(0, 64);
        Due.is("all 64", x.sets(0, 0), -1);
    }

    private static void least() {
        LeastShadows x = new LeastShadows();
        x.cube(3);
        Due.is("border of three", x.least(0, 3, 9), 4);
        Due.is("0, a, b", x.leastSets(0, 3, -7), 7);
        Due.is("edges of four", x.least(1, 4, 0), 4);
        Due.is("0, a, b, ab", x.leastSets(1, 4, 0), 15);
        Due.is("shadow of two pairs", x.least(2, 2, 2), 3);
        Due.is("ab, ac", x.leastSets(2, 2, 2), 40);
        Due.is("all", x.least(0, 8, 0), 0);
        Due.is("all sets", x.leastSets(0, 8, 0), 255);
        Due.is("none", x.leastSets(1, 0, 0), 0);
        Due.is("none by shadows", x.least(2, 0, 3), 0);
        Due.is("the empty set has no shadow", x.least(2, 1, 0), 0);
        Due.is("it is the first", x.leastSets(2, 1, 0), 1);
        long[] bad = {x.least(-1, 0, 0), x.least(3, 0, 0), x.least(0, -1, 0), x.least(0, 9, 0), x.least(2, 4, 2),
            x.least(2, 1, -1), x.least(2, 1, 4), x.least(2, -1, 1),
            x.least(2, 0, -1), x.least(2, 0, 4)};
        Due.are("bad least()", bad, -1, -1, -1, -1, -1, -1, -1, -1, -1, -1);
        long none = LeastShadows.VOID;
        long[] badSets = {x.leastSets(3, 0, 0), x.leastSets(0, 9, 0), x.leastSets(2, 4, 2), x.leastSets(2, 1, 4)};
        Due.are("bad leastSets()", badSets, none, none, none, none);
        x.cube(4);
        Due.is("border of eight", x.least(0, 8, 0), 6);
        Due.is("edges of eight", x.least(1, 8, 0), 8);
        Due.is("eight by edges", x.leastSets(1, 8, 0), 255);
        x.cube(5);
        long[] large = {x.least(0, 3, 0), x.least(1, 32, 0), x.least(1, 33, 0), x.least(2, 3, 3), x.leastSets(0, 3, 0)};
        Due.are("n 5", large, -5, -5, -1, 6, none);
        x.cube(6);
        long[] larger = {x.least(2, 3, 3), x.least(2, 20, 3), x.least(2, 21, 3), x.leastSets(2, 3, 3),
            x.least(2, 15, 4), x.leastSets(2, 1, 6)};
        Due.are("n 6", larger, -5, -5, -1, none, 20, Long.MIN_VALUE);
        Due.is("abcdef has six below", x.least(2, 1, 6), 6);
    }

    private static void meets() {
        LeastShadows x = new LeastShadows();
        Due.is("order 1, border of 5", x.meets(1, 0, 5), 1);
        Due.is("order 0, border of 5", x.meets(0, 0, 5), 0);
        Due.is("order 0, edges of 5", x.meets(0, 1, 5), 1);
        Due.is("order 2, edges of 4", x.meets(2, 1, 4), 0);
        Due.is("none", x.meets(3, 0, 0), 1);
        Due.is("all", x.meets(3, 1, 16), 1);
        long[] bad = {x.meets(4, 0, 1), x.meets(-1, 0, 1), x.meets(0, 2, 1), x.meets(0, -1, 1), x.meets(0, 0, -1), x.meets(0, 0, 17)};
        Due.are("bad meets()", bad, -1, -1, -1, -1, -1, -1);
        for (int m = 0; m <= 16; m++) {
            Due.is("numbers have the least edges, m " + m, x.meets(0, 1, m), 1);
        }
        x.cube(5);
        Due.is("n 5", x.meets(0, 0, 32), -5);
        Due.is("n 5, BAD ahead", x.meets(0, 0, 33), -1);
    }
}
