import java.util.ArrayList;
import java.util.Comparator;
import java.util.List;
import java.util.function.LongToIntFunction;

/** Orders and least ones: the sentences of the terms, and promises 13 to 17. */
final class OrderEdges {
    private static final int LEAST_INT = Integer.MIN_VALUE, GREATEST_INT = Integer.MAX_VALUE;

    private OrderEdges() { }

    static void test() {
        terms();
        promises();
    }

    private static void terms() {
        Sentences.of("Terms", "ORDERS of SETS: 0 by numbers.", () -> inOrder(0));
        Sentences.of("Terms", "1 by SIZE, of like SIZE those ahead that have the least ELEMENT which just one of the two has.", () -> inOrder(1));
        Sentences.of("Terms", "2 by SIZE, of like SIZE by numbers.", () -> inOrder(2));
        Sentences.of("Terms", "3 those without the greatest ELEMENT (n - 1) ahead by ORDER 1, behind them those with it by ORDER 1 (of what else they have).", () -> inOrder(3));
        Sentences.of("Terms", "LEAST of m SETS (n 4 at most): of all sets of m SETS: the fewest BORDER SETS (what 0), EDGES (1);", OrderEdges::leastOfAll);
        Sentences.of("Terms", "of m SETS of SIZE k (CHOICES of k among n 15 at most): the fewest SHADOW SETS (2);", OrderEdges::leastOfALevel);
        Sentences.of("Terms", "the first of all that have so few (as numbers).", OrderEdges::firstOfTheLeast);
        Sentences.of("Terms", "MEETS: whether the first m by an ORDER have as few (1, 0).", OrderEdges::firstOnesMeet);
        Sentences.of("Terms", "LEAST of 0 SETS is 0, of no SETS;", OrderEdges::leastOfNone);
        Sentences.of("Terms", "by what 2 an m above CHOICES is BAD, ahead of STATE.", OrderEdges::aboveChoices);
        Sentences.of("Terms", "MEETS by what 0, 1 is of all SETS.", OrderEdges::meetsIsOfAll);
    }

    private static void promises() {
        Sentences.of("Promise 13", "The k-th SET (from 0) by an ORDER (0 .. 3).", OrderEdges::ordered);
        Sentences.of("Promise 13", "BAD: order;", OrderEdges::orderedBad);
        Sentences.of("Promise 13", "NOT: there is no such one (k below 0, too).", OrderEdges::orderedNot);
        Sentences.of("Promise 14", "The first m SETS by an ORDER come as a FAMILY (of KIND 0, FIGURE 0): its number.", OrderEdges::first);
        Sentences.of("Promise 14", "BAD: order, m (0 .. how many there are);", OrderEdges::firstBad);
        Sentences.of("Promise 14", "FULL.", OrderEdges::firstFull);
        Sentences.of("Promise 15", "LEAST of m SETS: so many (what 0 .. 2; of 0, 1 k does not matter).", OrderEdges::least);
        Sentences.of("Promise 15", "BAD: what, m (more than there are, too), by what 2 k (0 .. n);", OrderEdges::leastBad);
        Sentences.of("Promise 15", "STATE: n above 4 (what 0, 1), more than 15 (2).", OrderEdges::leastState);
        Sentences.of("Promise 16", "The first that has so few.", OrderEdges::leastSets);
        Sentences.of("Promise 16", "VOID: as least() refuses.", OrderEdges::leastSetsVoid);
        Sentences.of("Promise 17", "MEETS by an ORDER, m SETS, what 0, 1.", OrderEdges::meets);
        Sentences.of("Promise 17", "BAD: order, what, m;", OrderEdges::meetsBad);
        Sentences.of("Promise 17", "STATE: n above 4.", OrderEdges::meetsState);
    }

    // ---- the plain way

    private static int leastElementFirst(int a, int b) {
        int differing = a ^ b;
        return differing == 0 ? 0 : (a & differing & -differing) != 0 ? -1 : 1;
    }

    private static Comparator<Integer> comparator(int n, int order) {
        Comparator<Integer> byNumber = Comparator.naturalOrder();
        Comparator<Integer> bySize = Comparator.comparingInt(Integer::bitCount);
        Comparator<Integer> one = bySize.thenComparing(OrderEdges::leastElementFirst);
        switch (order) {
            case 0: return byNumber;
            case 1: return one;
            case 2: return bySize.thenComparing(byNumber);
            default:
                int greatest = 1 << (n - 1);
                return Comparator.<Integer>comparingInt(s -> s & greatest)
                    .thenComparing((a, b) -> one.compare(a & ~greatest, b & ~greatest));
        }
    }

    private static List<Integer> sorted(int n, int order) {
        List<Integer> sets = new ArrayList<>();
        for (int s = 0; s < 1 << n; s++) {
            sets.add(s);
        }
        sets.sort(comparator(n, order));
        return sets;
    }

    private static int border(int n, long sets) {
        long beside = 0;
        for (int s = 0; s < 1 << n; s++) {
            for (int e = 0; e < n && (sets >> s & 1) != 0; e++) {
                beside |= 1L << (s ^ 1 << e);
            }
        }
        return Long.bitCount(beside & ~sets);
    }

    private static int edges(int n, long sets) {
        int edges = 0;
        for (int s = 0; s < 1 << n; s++) {
            for (int e = 0; e < n && (sets >> s & 1) != 0; e++) {
                edges += (sets >> (s ^ 1 << e) & 1) == 0 ? 1 : 0;
            }
        }
        return edges;
    }

    private static int shadow(int n, long sets) {
        long below = 0;
        for (int s = 0; s < 1 << n; s++) {
            for (int e = 0; e < n && (sets >>> s & 1) != 0; e++) {
                below |= (s >> e & 1) != 0 ? 1L << (s ^ 1 << e) : 0;
            }
        }
        return Long.bitCount(below);
    }

    /** For each m from 0 on: how few, and the first that has so few, of all subsets of these. */
    static long[][] leastOf(List<Integer> among, LongToIntFunction measure) {
        long[][] least = new long[among.size() + 1][];
        for (int chosen = 0; chosen < 1 << among.size(); chosen++) {
            long sets = 0;
            for (int i = 0; i < among.size(); i++) {
                sets |= (chosen >> i & 1) != 0 ? 1L << among.get(i) : 0;
            }
            int m = Integer.bitCount(chosen);
            int measured = measure.applyAsInt(sets);
            if (least[m] == null || measured < least[m][0]) {
                least[m] = new long[] {measured, sets};
            }
        }
        return least;
    }

    private static long[][] leastOfCube(int n, int what) {
        return leastOf(sorted(n, 0), what == 0 ? sets -> border(n, sets) : sets -> edges(n, sets));
    }

    private static List<Integer> ofSize(int n, int k) {
        List<Integer> sets = sorted(n, 0);
        sets.removeIf(s -> Integer.bitCount(s) != k);
        return sets;
    }

    // ---- terms

    private static void inOrder(int order) {
        for (int n = 1; n <= 6; n++) {
            LeastShadows x = Made.cube(n);
            List<Integer> sorted = sorted(n, order);
            for (int k = 0; k < 1 << n; k++) {
                Due.is("order " + order + ", n " + n + ", k " + k, x.ordered(order, k), sorted.get(k));
            }
        }
    }

    private static void leastOfAll() {
        for (int n = 1; n <= 4; n++) {
            LeastShadows x = Made.cube(n);
            for (int what = 0; what <= 1; what++) {
                long[][] least = leastOfCube(n, what);
                for (int m = 0; m <= 1 << n; m++) {
                    Due.is("n " + n + ", what " + what + ", m " + m, x.least(what, m, 0), least[m][0]);
                }
            }
        }
        Due.is("n 5 is above", Made.cube(5).least(0, 1, 0), -5);
    }

    private static void leastOfALevel() {
        for (int n = 1; n <= 6; n++) {
            LeastShadows x = Made.cube(n);
            for (int k = 0; k <= n; k++) {
                List<Integer> among = ofSize(n, k);
                if (among.size() > 15) {
                    Due.is("more than 15, n " + n + ", k " + k, x.least(2, 1, k), -5);
                    continue;
                }
                int size = n;
                long[][] least = leastOf(among, sets -> shadow(size, sets));
                for (int m = 0; m <= among.size(); m++) {
                    Due.is("n " + n + ", k " + k + ", m " + m, x.least(2, m, k), least[m][0]);
                }
            }
        }
    }

    private static void firstOfTheLeast() {
        for (int n = 1; n <= 4; n++) {
            LeastShadows x = Made.cube(n);
            for (int what = 0; what <= 1; what++) {
                long[][] least = leastOfCube(n, what);
                for (int m = 0; m <= 1 << n; m++) {
                    Due.is("n " + n + ", what " + what + ", m " + m, x.leastSets(what, m, 0), least[m][1]);
                }
            }
        }
        for (int n = 1; n <= 6; n++) {
            LeastShadows x = Made.cube(n);
            for (int k = 0; k <= n; k++) {
                List<Integer> among = ofSize(n, k);
                int size = n;
                for (int m = 0; m <= among.size() && among.size() <= 15; m++) {
                    Due.is("n " + n + ", k " + k + ", m " + m, x.leastSets(2, m, k), leastOf(among, sets -> shadow(size, sets))[m][1]);
                }
            }
        }
    }

    private static void firstOnesMeet() {
        for (int n = 1; n <= 4; n++) {
            for (int what = 0; what <= 1; what++) {
                long[][] least = leastOfCube(n, what);
                for (int order = 0; order <= 3; order++) {
                    LeastShadows x = Made.cube(n);
                    long first = 0;
                    for (int m = 0; m <= 1 << n; m++) {
                        int measured = what == 0 ? border(n, first) : edges(n, first);
                        Due.is("n " + n + ", order " + order + ", what " + what + ", m " + m, x.meets(order, what, m), measured == least[m][0] ? 1 : 0);
                        first |= m < 1 << n ? 1L << sorted(n, order).get(m) : 0;
                    }
                }
            }
        }
    }

    private static void leastOfNone() {
        for (int n = 1; n <= 4; n++) {
            LeastShadows x = Made.cube(n);
            for (int what = 0; what <= 2; what++) {
                Due.is("n " + n, x.least(what, 0, 0), 0);
                Due.is("no SETS, n " + n, x.leastSets(what, 0, 0), 0);
            }
            Due.is("of SIZE n", x.leastSets(2, 0, n), 0);
        }
        Due.is("STATE for 0, too", Made.cube(5).least(0, 0, 0), -5);
        Due.is("STATE for 0 of a level, too", Made.cube(6).least(2, 0, 3), -5);
    }

    private static void aboveChoices() {
        LeastShadows x = Made.cube(6);
        long[] twenty = {x.least(2, 20, 3), x.least(2, 21, 3), x.least(2, 64, 3), x.least(2, 65, 3), x.least(2, GREATEST_INT, 3)};
        Due.are("20 of SIZE 3", twenty, -5, -1, -1, -1, -1);
        long[] fifteen = {x.least(2, 15, 2), x.least(2, 16, 2), x.least(2, 15, 4), x.least(2, 16, 4)};
        Due.are("15 of SIZES 2, 4", fifteen, 6, -1, 20, -1);
        for (int n = 1; n <= 6; n++) {
            LeastShadows y = Made.cube(n);
            for (int k = 0; k <= n; k++) {
                Due.is("one above, n " + n + ", k " + k, y.least(2, ofSize(n, k).size() + 1, k), -1);
            }
        }
    }

    private static void meetsIsOfAll() {
        LeastShadows x = Made.families(0);
        Due.is("all SETS may be", x.meets(0, 0, 16), 1);
        Due.is("none", x.meets(0, 0, 0), 1);
        Due.is("the first five of order 1 are of two SIZES", x.meets(1, 0, 5), 1);
        Due.is("of order 0 they have more", x.meets(0, 0, 5), 0);
        Due.is("what 2 is none", x.meets(0, 2, 1), -1);
    }

    // ---- promises

    private static void ordered() {
        for (int n = 1; n <= 6; n++) {
            LeastShadows x = Made.cube(n);
            for (int order = 0; order <= 3; order++) {
                Due.is("the first, order " + order, x.ordered(order, 0), 0);
                Due.is("the last, order " + order, x.ordered(order, (1 << n) - 1), (1 << n) - 1);
                Due.is("none behind, order " + order, x.ordered(order, 1 << n), -2);
            }
        }
        States.changesNothing("ordered(1, 1)", y -> y.ordered(1, 1));
    }

    private static void orderedBad() {
        for (int order : new int[] {-1, 4, LEAST_INT, GREATEST_INT}) {
            States.refused("order " + order, x -> x.ordered(order, 0), -1);
            States.refused("BAD ahead of NOT", x -> x.ordered(order, -1), -1);
            States.refused("BAD ahead of NOT", x -> x.ordered(order, 64), -1);
        }
    }

    private static void orderedNot() {
        for (int k : new int[] {-1, 64, LEAST_INT, GREATEST_INT}) {
            for (int order = 0; order <= 3; order++) {
                int o = order;
                States.refused("k " + k, x -> x.ordered(o, k), -2);
            }
        }
        Due.is("k 16 of n 4", new LeastShadows().ordered(2, 16), -2);
        Due.is("k 2 of n 1", Made.cube(1).ordered(3, 2), -2);
    }

    private static void first() {
        for (int n = 1; n <= 6; n++) {
            for (int order = 0; order <= 3; order++) {
                LeastShadows x = Made.cube(n);
                long first = 0;
                for (int m = 0; m <= 1 << n; m++) {
                    Due.is("its number", x.first(order, m), 0);
                    Due.is("first " + m + ", order " + order + ", n " + n, x.sets(0, 0), first);
                    x.drop();
                    first |= m < 1 << n ? 1L << sorted(n, order).get(m) : 0;
                }
            }
        }
        LeastShadows x = Made.families(1);
        x.set(0, 1, 3);
        Due.is("behind the others", x.first(0, 3), 1);
        States.changes(States::rich, "first(0, 0)", y -> y.first(0, 0), "families", "changes");
        Due.is("KIND", x.of(1, 0), 0);
        Due.is("FIGURE", x.of(1, 1), 0);
    }

    private static void firstBad() {
        for (int order : new int[] {-1, 4, LEAST_INT, GREATEST_INT}) {
            States.refused("order " + order + ", also where it is FULL", x -> x.first(order, 1), -1);
        }
        for (int m : new int[] {-1, 65, LEAST_INT, GREATEST_INT}) {
            States.refused("m " + m + ", also where it is FULL", x -> x.first(0, m), -1);
        }
        for (int n = 1; n <= 6; n++) {
            LeastShadows x = Made.cube(n);
            for (int order = 0; order <= 3; order++) {
                Due.is("one more than there are, n " + n, x.first(order, (1 << n) + 1), -1);
            }
            Due.is("none came", x.count(0), 0);
            Due.is("all there are, n " + n, x.first(3, 1 << n), 0);
        }
    }

    private static void firstFull() {
        for (int m : new int[] {0, 1, 16}) {
            States.refused(States::full, "a ninth of " + m, x -> x.first(1, m), -3);
        }
        LeastShadows x = Made.fullOfFamilies();
        x.drop();
        Due.is("an eighth", x.first(1, 1), 7);
        Due.is("no ninth", x.first(1, 1), -3);
    }

    private static void least() {
        LeastShadows x = new LeastShadows();
        for (int k : new int[] {-1, 0, 4, 5, LEAST_INT, GREATEST_INT}) {
            Due.is("k does not matter, what 0", x.least(0, 5, k), 6);
            Due.is("k does not matter, what 1", x.least(1, 8, k), 8);
        }
        Due.is("all by borders", x.least(0, 16, 0), 0);
        Due.is("one by borders", x.least(0, 1, 0), 4);
        Due.is("all by edges", x.least(1, 16, 0), 0);
        Due.is("one by shadows", x.least(2, 1, 4), 4);
        States.changesNothing("least(2, 1, 1)", y -> y.least(2, 1, 1));
        States.changesNothing("least(0, 2, 1)", y -> y.least(0, 2, 1));
    }

    private static void leastBad() {
        for (int what : new int[] {-1, 3, LEAST_INT, GREATEST_INT}) {
            States.refused("what " + what + ", also where n is above 4", x -> x.least(what, 1, 1), -1);
        }
        for (int what = 0; what <= 2; what++) {
            int w = what;
            for (int m : new int[] {-1, 65, LEAST_INT, GREATEST_INT}) {
                States.refused("m " + m + ", also where n is above 4", x -> x.least(w, m, 1), -1);
            }
        }
        for (int k : new int[] {-1, 7, LEAST_INT, GREATEST_INT}) {
            States.refused("k " + k, x -> x.least(2, 0, k), -1);
            States.refused("k " + k, x -> x.least(2, 1, k), -1);
        }
        for (int n = 1; n <= 6; n++) {
            LeastShadows x = Made.cube(n);
            Due.is("more than there are by what 0, n " + n, x.least(0, (1 << n) + 1, 0), -1);
            Due.is("more than there are by what 1, n " + n, x.least(1, (1 << n) + 1, 0), -1);
            Due.is("k n plus 1, n " + n, x.least(2, 0, n + 1), -1);
            Due.is("k n, n " + n, x.least(2, 1, n), n);
            Due.is("k 0, n " + n, x.least(2, 1, 0), 0);
        }
    }

    private static void leastState() {
        for (int n = 1; n <= 6; n++) {
            LeastShadows x = Made.cube(n);
            for (int what = 0; what <= 1; what++) {
                Due.is("none, n " + n, x.least(what, 0, 0), n > 4 ? -5 : 0);
                Due.is("all, n " + n, x.least(what, 1 << n, 0), n > 4 ? -5 : 0);
            }
        }
        for (int n = 1; n <= 5; n++) {
            for (int k = 0; k <= n; k++) {
                Due.is("no level of n " + n + " is too large", Made.cube(n).least(2, 0, k), 0);
            }
        }
        for (int k = 0; k <= 6; k++) {
            Due.is("of n 6 just SIZE 3 is, k " + k, Made.cube(6).least(2, 0, k), k == 3 ? -5 : 0);
        }
        States.refused(States::emptied, "least(0, 1, 0)", x -> x.least(0, 1, 0), -5);
        States.refused(States::emptied, "least(2, 1, 3)", x -> x.least(2, 1, 3), -5);
    }

    private static void leastSets() {
        LeastShadows x = new LeastShadows();
        Due.is("all", x.leastSets(0, 16, -9), 65535);
        Due.is("none", x.leastSets(1, 0, 99), 0);
        Due.is("one by borders: any has four", x.leastSets(0, 1, 0), 1);
        Due.is("all of SIZE 2", x.leastSets(2, 6, 2), Made.ofSize(4, 2));
        LeastShadows six = Made.cube(6);
        Due.is("abcdef", six.leastSets(2, 1, 6), Long.MIN_VALUE);
        Due.is("all of SIZE 5", six.leastSets(2, 6, 5), Made.ofSize(6, 5));
        Due.is("of SIZE 4 the first", six.leastSets(2, 1, 4), 1L << 15);
        States.changesNothing("leastSets(2, 1, 1)", y -> y.leastSets(2, 1, 1));
    }

    private static void leastSetsVoid() {
        for (int what : new int[] {-1, 3, LEAST_INT, GREATEST_INT}) {
            States.refused("what " + what, x -> x.leastSets(what, 1, 1), Made.NONE);
        }
        for (int m : new int[] {-1, 65, LEAST_INT, GREATEST_INT}) {
            States.refused("m " + m + ", what 0", x -> x.leastSets(0, m, 1), Made.NONE);
            States.refused("m " + m + ", what 2", x -> x.leastSets(2, m, 1), Made.NONE);
        }
        for (int k : new int[] {-1, 7, LEAST_INT, GREATEST_INT}) {
            States.refused("k " + k, x -> x.leastSets(2, 0, k), Made.NONE);
        }
        LeastShadows five = Made.cube(5);
        long[] large = {five.leastSets(0, 0, 0), five.leastSets(1, 32, 0), five.leastSets(1, 33, 0), five.leastSets(2, 0, 6), five.leastSets(2, 11, 2)};
        Due.are("n 5", large, Made.NONE, Made.NONE, Made.NONE, Made.NONE, Made.NONE);
        LeastShadows six = Made.cube(6);
        Due.is("20 of SIZE 3", six.leastSets(2, 1, 3), Made.NONE);
        Due.is("16 of SIZE 2", six.leastSets(2, 16, 2), Made.NONE);
        Due.is("17 of n 4", new LeastShadows().leastSets(0, 17, 0), Made.NONE);
    }

    private static void meets() {
        for (int n = 1; n <= 4; n++) {
            LeastShadows x = Made.cube(n);
            for (int order = 0; order <= 3; order++) {
                for (int what = 0; what <= 1; what++) {
                    Due.is("none", x.meets(order, what, 0), 1);
                    Due.is("one", x.meets(order, what, 1), 1);
                    Due.is("all", x.meets(order, what, 1 << n), 1);
                }
            }
        }
        Due.is("0, a, b, c by edges", new LeastShadows().meets(1, 1, 4), 0);
        States.changesNothing("meets(0, 0, 1)", y -> y.meets(0, 0, 1));
    }

    private static void meetsBad() {
        for (int order : new int[] {-1, 4, LEAST_INT, GREATEST_INT}) {
            States.refused("order " + order + ", also where n is above 4", x -> x.meets(order, 0, 1), -1);
        }
        for (int what : new int[] {-1, 2, LEAST_INT, GREATEST_INT}) {
            States.refused("what " + what + ", also where n is above 4", x -> x.meets(0, what, 1), -1);
        }
        for (int m : new int[] {-1, 65, LEAST_INT, GREATEST_INT}) {
            States.refused("m " + m + ", also where n is above 4", x -> x.meets(0, 0, m), -1);
        }
        for (int n = 1; n <= 6; n++) {
            Due.is("one more than there are, n " + n, Made.cube(n).meets(0, 1, (1 << n) + 1), -1);
        }
    }

    private static void meetsState() {
        for (int n = 5; n <= 6; n++) {
            LeastShadows x = Made.cube(n);
            long[] large = {x.meets(0, 0, 0), x.meets(3, 1, 1), x.meets(1, 1, 1 << n)};
            Due.are("n " + n, large, -5, -5, -5);
        }
        States.refused(States::emptied, "meets(0, 0, 1)", x -> x.meets(0, 0, 1), -5);
    }
}
