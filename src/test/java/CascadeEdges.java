import java.math.BigInteger;

/** Cascades: the sentences of the terms, and promises 18 to 20. */
final class CascadeEdges {
    private static final int LEAST_INT = Integer.MIN_VALUE, GREATEST_INT = Integer.MAX_VALUE, MOST = 2000000000;

    private CascadeEdges() { }

    static void test() {
        Sentences.of("Terms", "CASCADE of a number m (0 .. 2000000000) by k (1 .. 12): k, k less 1, .. as long as something of m is left:", CascadeEdges::asLongAsSomethingIsLeft);
        Sentences.of("Terms", "for each such i the greatest a by which CHOICES of i among a are no more than what is left, which is that much less then: row of a's.", CascadeEdges::greatestOfEach);
        Sentences.of("Terms", "BOUND: over these CHOICES of (i less 1) among a, together.", CascadeEdges::boundOfEach);
        Sentences.of("Terms", "OVER: BOUND times a told number (1 .. 2000000000) is no int.", CascadeEdges::over);
        Sentences.of("Terms", "CHOICES of k among a: how many sets of k there are of a things (0, if k is above a; k 0: 1).", CascadeEdges::choicesOfNoneAndMore);
        Sentences.of("Terms", "A CASCADE of 0 has no place.", CascadeEdges::ofZero);
        Sentences.of("Promise 18", "CASCADE of m by k: how many a's (place -1), the place-th (from 0;", CascadeEdges::cascade);
        Sentences.of("Promise 18", "NOT: there are not so many).", CascadeEdges::cascadeNot);
        Sentences.of("Promise 18", "BAD: m, k, place below -1.", CascadeEdges::cascadeBad);
        Sentences.of("Promise 19", "BOUND.", CascadeEdges::bound);
        Sentences.of("Promise 19", "BAD: m, k.", CascadeEdges::boundBad);
        Sentences.of("Promise 20", "BOUND times a number.", CascadeEdges::scaled);
        Sentences.of("Promise 20", "BAD: m, k, by;", CascadeEdges::scaledBad);
        Sentences.of("Promise 20", "OVER.", CascadeEdges::scaledOver);
    }

    // ---- the plain way

    private static BigInteger choices(long a, int k) {
        BigInteger choices = BigInteger.ONE;
        for (int i = 1; i <= k; i++) {
            choices = choices.multiply(BigInteger.valueOf(a - k + i)).divide(BigInteger.valueOf(i));
        }
        return k > a ? BigInteger.ZERO : choices;
    }

    /** Numbers at which a cascade's first a changes, and their neighbours, and the ends. */
    private static int[] numbers(int k) {
        int[] numbers = new int[40];
        int many = 0;
        for (int some : new int[] {0, 1, 2, 3, 11, 12, 13, 65535, 65536, 123456789, 1999999998, 1999999999, MOST}) {
            numbers[many++] = some;
        }
        for (int a = k; many < 37; a += 1 + a / 6) {
            BigInteger choices = choices(a, k);
            if (choices.compareTo(BigInteger.valueOf(MOST)) >= 0) {
                break;
            }
            numbers[many++] = choices.intValue() - 1;
            numbers[many++] = choices.intValue();
            numbers[many++] = choices.intValue() + 1;
        }
        return java.util.Arrays.copyOf(numbers, many);
    }

    /** Looks at each a of the row: it fits, one more does not; what the row comes to is told. */
    private static BigInteger leftBy(LeastShadows x, int m, int k, BigInteger[] bound) {
        BigInteger left = BigInteger.valueOf(m);
        int many = x.cascade(m, k, -1);
        bound[0] = BigInteger.ZERO;
        for (int place = 0; place < many; place++) {
            int i = k - place;
            int a = x.cascade(m, k, place);
            String at = "m " + m + ", k " + k + ", place " + place;
            Due.holds(at + ": something is left", left.signum() > 0);
            Due.holds(at + ": " + a + " fits", choices(a, i).compareTo(left) <= 0);
            Due.holds(at + ": one more than " + a + " does not", choices(a + 1L, i).compareTo(left) > 0);
            left = left.subtract(choices(a, i));
            bound[0] = bound[0].add(choices(a, i - 1));
        }
        return left;
    }

    // ---- terms

    private static void asLongAsSomethingIsLeft() {
        LeastShadows x = new LeastShadows();
        for (int k = 1; k <= 12; k++) {
            Due.is("of 0, k " + k, x.cascade(0, k, -1), 0);
            Due.is("of 1, k " + k, x.cascade(1, k, -1), 1);
            Due.is("1 by k: k", x.cascade(1, k, 0), k);
            Due.is("as many a's as k: " + k, x.cascade(k, k, -1), k);
            Due.is("the last of these", x.cascade(k, k, k - 1), 1);
            Due.is("k plus 1 is one a again", x.cascade(k + 1, k, -1), 1);
            Due.is("of the greatest", x.cascade(MOST, k, 0) > 0 ? 1 : 0, 1);
        }
        Due.is("one by one", x.cascade(MOST, 1, -1), 1);
    }

    private static void greatestOfEach() {
        for (int k = 1; k <= 12; k++) {
            for (int m : numbers(k)) {
                LeastShadows x = new LeastShadows();
                Due.is("nothing is left of " + m + " by " + k, leftBy(x, m, k, new BigInteger[1]).intValueExact(), 0);
            }
        }
    }

    private static void boundOfEach() {
        for (int k = 1; k <= 12; k++) {
            for (int m : numbers(k)) {
                LeastShadows x = new LeastShadows();
                BigInteger[] bound = new BigInteger[1];
                leftBy(x, m, k, bound);
                Due.is("bound of " + m + " by " + k, x.bound(m, k), bound[0].intValueExact());
            }
        }
    }

    private static void over() {
        LeastShadows x = new LeastShadows();
        Due.is("bound of 1 by 2", x.bound(1, 2), 2);
        Due.is("2 to the 31 is no int", x.scaled(1, 2, 1073741824), -6);
        Due.is("2 less is one", x.scaled(1, 2, 1073741823), 2147483646);
        Due.is("bound of 1 by 4", x.bound(1, 4), 4);
        Due.is("2 to the 32 wraps to 0, and is no int", x.scaled(1, 4, 1073741824), -6);
        Due.is("one that wraps above 0", x.scaled(1, 5, 1000000000), -6);
        Due.is("the greatest product", x.scaled(MOST, 12, MOST), -6);
        Due.is("1 times the greatest number", x.scaled(MOST, 1, MOST), MOST);
    }

    private static void choicesOfNoneAndMore() {
        LeastShadows x = new LeastShadows();
        for (int m : new int[] {1, 2, 7, MOST}) {
            Due.is("of none among m: 1", x.bound(m, 1), 1);
        }
        for (int k = 1; k <= 12; k++) {
            Due.is("of all: 1, so the first a of 1 is k", x.cascade(1, k, 0), k);
            Due.is("of all but one among k: k", x.bound(1, k), k);
        }
        Due.is("3 among 2 are none: a row of 2 by 3 begins with 3, 2", x.cascade(2, 3, 1), 2);
        for (int n = 1; n <= 6; n++) {
            LeastShadows y = Made.cube(n);
            for (int k = 0; k <= n; k++) {
                int choices = choices(n, k).intValueExact();
                Due.is("so many SETS of SIZE k", y.least(2, choices, k) == -1 ? 1 : 0, 0);
                Due.is("and no more", y.least(2, choices + 1, k), -1);
            }
        }
    }

    private static void ofZero() {
        LeastShadows x = new LeastShadows();
        for (int k = 1; k <= 12; k++) {
            long[] zero = {x.cascade(0, k, -1), x.cascade(0, k, 0), x.cascade(0, k, 1), x.bound(0, k), x.scaled(0, k, MOST)};
            Due.are("0 by " + k, zero, 0, -2, -2, 0, 0);
        }
    }

    // ---- promises

    private static void cascade() {
        LeastShadows x = new LeastShadows();
        long[] row = {x.cascade(78, 12, -1), x.cascade(78, 12, 0), x.cascade(77, 12, -1), x.cascade(77, 12, 0), x.cascade(77, 12, 1)};
        Due.are("78 and 77 by 12", row, 10, 13, 9, 13, 12);
        long[] ends = {x.cascade(MOST, 1, 0), x.cascade(MOST, 2, 0), x.cascade(MOST, 12, 0), x.cascade(1, 1, 0), x.cascade(12, 12, 11)};
        Due.are("ends", ends, MOST, 63246, 37, 1, 1);
        Due.is("another one behind it", x.cascade(11, 3, 1), 2);
        States.changesNothing("cascade(11, 3, 0)", y -> y.cascade(11, 3, 0));
    }

    private static void cascadeNot() {
        LeastShadows x = new LeastShadows();
        for (int k = 1; k <= 12; k++) {
            for (int m : new int[] {0, 1, 11, 12, 500, MOST}) {
                int many = x.cascade(m, k, -1);
                Due.is("behind the last", x.cascade(m, k, many), -2);
                Due.holds("the last", many == 0 || x.cascade(m, k, many - 1) > 0);
            }
        }
        for (int place : new int[] {12, 100, GREATEST_INT}) {
            States.refused("place " + place, y -> y.cascade(12, 12, place), -2);
            States.refused("place " + place + " of 0", y -> y.cascade(0, 12, place), -2);
        }
        Due.is("a longer one was asked ahead", x.cascade(12, 12, 11) + x.cascade(1, 12, 1), 1 - 2);
    }

    private static void cascadeBad() {
        for (int m : new int[] {-1, MOST + 1, LEAST_INT, GREATEST_INT}) {
            States.refused("m " + m, x -> x.cascade(m, 3, 0), -1);
            States.refused("how many, m " + m, x -> x.cascade(m, 3, -1), -1);
            States.refused("m " + m + ", no such place", x -> x.cascade(m, 3, 99), -1);
        }
        for (int k : new int[] {0, 13, -1, LEAST_INT, GREATEST_INT}) {
            States.refused("k " + k, x -> x.cascade(5, k, 0), -1);
            States.refused("how many, k " + k, x -> x.cascade(5, k, -1), -1);
            States.refused("of 0, k " + k, x -> x.cascade(0, k, -1), -1);
        }
        for (int place : new int[] {-2, -3, LEAST_INT}) {
            States.refused("place " + place, x -> x.cascade(5, 3, place), -1);
            States.refused("place " + place + " of 0", x -> x.cascade(0, 3, place), -1);
        }
    }

    private static void bound() {
        LeastShadows x = new LeastShadows();
        long[] ends = {x.bound(0, 1), x.bound(0, 12), x.bound(1, 1), x.bound(1, 12), x.bound(MOST, 1), x.bound(MOST, 12)};
        Due.are("ends", ends, 0, 0, 1, 12, 1, 928961178);
        States.changesNothing("bound(11, 3)", y -> y.bound(11, 3));
    }

    private static void boundBad() {
        for (int m : new int[] {-1, MOST + 1, LEAST_INT, GREATEST_INT}) {
            States.refused("m " + m, x -> x.bound(m, 3), -1);
        }
        for (int k : new int[] {0, 13, -1, LEAST_INT, GREATEST_INT}) {
            States.refused("k " + k, x -> x.bound(5, k), -1);
            States.refused("of 0, k " + k, x -> x.bound(0, k), -1);
        }
    }

    private static void scaled() {
        LeastShadows x = new LeastShadows();
        long[] some = {x.scaled(11, 3, 1), x.scaled(11, 3, 2), x.scaled(1, 1, MOST), x.scaled(0, 3, 1), x.scaled(MOST, 12, 1), x.scaled(MOST, 12, 2)};
        Due.are("by 1, 2, the most", some, 12, 24, MOST, 0, 928961178, 1857922356);
        States.changesNothing("scaled(11, 3, 2)", y -> y.scaled(11, 3, 2));
    }

    private static void scaledBad() {
        for (int m : new int[] {-1, MOST + 1, LEAST_INT, GREATEST_INT}) {
            States.refused("m " + m, x -> x.scaled(m, 3, MOST), -1);
        }
        for (int k : new int[] {0, 13, -1, LEAST_INT, GREATEST_INT}) {
            States.refused("k " + k, x -> x.scaled(5, k, MOST), -1);
        }
        for (int by : new int[] {0, -1, MOST + 1, LEAST_INT, GREATEST_INT}) {
            States.refused("BAD ahead of OVER, by " + by, x -> x.scaled(MOST, 12, by), -1);
            States.refused("of 0, by " + by, x -> x.scaled(0, 12, by), -1);
        }
    }

    private static void scaledOver() {
        States.refused("3 times the greatest", x -> x.scaled(MOST, 12, 3), -6);
        LeastShadows x = new LeastShadows();
        for (int m : new int[] {1, 2, 5, 11, 500, 123456, MOST}) {
            for (int k = 1; k <= 12; k++) {
                int bound = x.bound(m, k);
                int most = Math.min(GREATEST_INT / bound, MOST);
                Due.is("the greatest that is an int", x.scaled(m, k, most), (long) bound * most);
                if (most < MOST) {
                    Due.is("the least that is none", x.scaled(m, k, most + 1), -6);
                }
            }
        }
    }
}
