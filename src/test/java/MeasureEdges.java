/** Floats, doubles, told profiles, lots: the sentences of the terms, and promises 27 to 30. */
final class MeasureEdges {
    private static final int LEAST_INT = Integer.MIN_VALUE, GREATEST_INT = Integer.MAX_VALUE;
    private static final int[][] CHOICES = {{1}, {1, 1}, {1, 2, 1}, {1, 3, 3, 1}, {1, 4, 6, 4, 1}, {1, 5, 10, 10, 5, 1}, {1, 6, 15, 20, 15, 6, 1}};

    private MeasureEdges() { }

    static void test() {
        Sentences.of("Terms", "DENSITY of a FAMILY as a float: how many SETS it has, divided by how many there are;", MeasureEdges::density);
        Sentences.of("Terms", "MEAN: all SIZES together, divided by how many SETS it has;", MeasureEdges::mean);
        Sentences.of("Terms", "each as floats divide; told by its bits (as floatToIntBits tells them).", MeasureEdges::asFloats);
        Sentences.of("Terms", "WEIGHT as a double: 0.0, and then for each of its SETS, by numbers, 1.0 divided by CHOICES of SIZE among n added (as doubles add and divide); told by its bits (as doubleToLongBits).", MeasureEdges::weights);
        Sentences.of("Terms", "JUDGED: a LIST tells a PROFILE: the first SIZE that is otherwise;", MeasureEdges::firstOtherSize);
        Sentences.of("Terms", "-2: none;", MeasureEdges::noneOtherwise);
        Sentences.of("Terms", "100 and how many were looked at, if it ends ahead of n.", MeasureEdges::listEnds);
        Sentences.of("Terms", "JUDGED is 100 and n, if just SIZE n is not told.", MeasureEdges::justTheLastIsNotTold);
        Sentences.of("Terms", "LOTS with a seed z: t times (1 .. 20) sets of SETS, of each SET, by numbers, a DRAW below 100 being below p (0 .. 100): how many BORDER SETS all these have, together (what 0), EDGES (1).", MeasureEdges::lotsOfAll);
        Sentences.of("Terms", "A DRAW below m: z becomes z times 1103515245 plus 12345 (an int, wrapping); (z without its sign's bit, over 65536, cut) modulo m.", MeasureEdges::draws);
        Sentences.of("Terms", "LOTS go on with z from one to the next.", MeasureEdges::lotsGoOn);
        Sentences.of("Terms", "DENSITY times 1000 is a number.", MeasureEdges::thousandths);
        promises();
    }

    private static void promises() {
        Sentences.of("Promise 27", "Bits of DENSITY (what 0), MEAN (1);", MeasureEdges::bits);
        Sentences.of("Promise 27", "DENSITY times 1000, as floats multiply, cast to an int (2).", MeasureEdges::castThousandths);
        Sentences.of("Promise 27", "VOID: BAD,", MeasureEdges::bitsVoid);
        Sentences.of("Promise 27", "or MEAN of a FAMILY without SETS.", MeasureEdges::meanOfNone);
        Sentences.of("Promise 28", "Bits of WEIGHT.", MeasureEdges::weight);
        Sentences.of("Promise 28", "VOID: BAD.", MeasureEdges::weightVoid);
        Sentences.of("Promise 29", "JUDGED by a LIST, a FAMILY.", MeasureEdges::judge);
        Sentences.of("Promise 29", "BAD;", MeasureEdges::judgeBad);
        Sentences.of("Promise 29", "-11.", MeasureEdges::judgeMissing);
        Sentences.of("Promise 30", "LOTS.", MeasureEdges::lots);
        Sentences.of("Promise 30", "BAD: t, p, what.", MeasureEdges::lotsBad);
    }

    /** The first so many sets by numbers. */
    private static long first(int many) {
        return many == 64 ? -1 : (1L << many) - 1;
    }

    // ---- floats

    private static void density() {
        for (int n = 1; n <= 6; n++) {
            for (int many = 0; many <= 1 << n; many++) {
                LeastShadows x = Made.cube(n, first(many));
                Due.is(many + " of n " + n, x.bits(0, 0), Float.floatToIntBits((float) many / (float) (1 << n)));
            }
        }
        Due.is("of what it has by its KIND", Made.kind(4, 1, 0, 1).bits(0, 0), Float.floatToIntBits(15f / 16f));
    }

    private static void mean() {
        for (int n = 1; n <= 6; n++) {
            int sizes = 0;
            for (int many = 1; many <= 1 << n; many++) {
                sizes += Integer.bitCount(many - 1);
                Due.is(many + " of n " + n, Made.cube(n, first(many)).bits(0, 1), Float.floatToIntBits((float) sizes / (float) many));
            }
            Due.is("the greatest alone, n " + n, Made.cube(n, Made.top(n)).bits(0, 1), Float.floatToIntBits((float) n));
        }
        Due.is("of what it has by its KIND", Made.kind(4, 2, 0, 1).bits(0, 1), Float.floatToIntBits(4f));
    }

    private static void asFloats() {
        Due.is("7 thirds, rounded as a float", Made.families(6152).bits(0, 1), 1075139925);
        Due.is("1 64th", Made.cube(6, 1).bits(0, 0), 0x3C800000);
        Due.is("1", Made.cube(6, -1).bits(0, 0), 0x3F800000);
        Due.is("0", Made.cube(6, 0).bits(0, 0), 0);
        Due.is("mean 0", Made.cube(6, 1).bits(0, 1), 0);
        Due.is("mean 6", Made.cube(6, Long.MIN_VALUE).bits(0, 1), 0x40C00000);
        Due.is("mean a third", Made.cube(6, 7 & ~2L | 1L << 8).bits(0, 1), Float.floatToIntBits(2f / 3f));
        Due.is("mean a 33rd and more", Made.cube(6, 1 | 1L << 32).bits(0, 1), Float.floatToIntBits(1f / 2f));
    }

    private static void weights() {
        long some = 99;
        for (int n = 1; n <= 6; n++) {
            for (int turn = 0; turn < 20; turn++) {
                some = some * 6364136223846793005L + 1442695040888963407L;
                long told = (turn == 0 ? 0 : turn == 1 ? -1 : some ^ some >>> 29) & Made.all(n);
                double weight = 0.0;
                for (int s = 0; s < 1 << n; s++) {
                    if ((told >>> s & 1) != 0) {
                        weight = weight + 1.0 / CHOICES[n][Integer.bitCount(s)];
                    }
                }
                Due.is("of " + told + ", n " + n, Made.cube(n, told).weight(0), Double.doubleToLongBits(weight));
            }
        }
    }

    private static void thousandths() {
        for (int n = 1; n <= 6; n++) {
            for (int many = 0; many <= 1 << n; many++) {
                Due.is(many + " of n " + n, Made.cube(n, first(many)).bits(0, 2), (int) ((float) many / (float) (1 << n) * 1000f));
            }
        }
    }

    private static void bits() {
        LeastShadows x = Made.families(65535, 3);
        long[] bits = {x.bits(0, 0), x.bits(0, 1), x.bits(1, 0), x.bits(1, 1)};
        Due.are("all; 0 and a", bits, Float.floatToIntBits(1f), Float.floatToIntBits(2f), Float.floatToIntBits(0.125f), Float.floatToIntBits(0.5f));
        for (int what = 0; what <= 2; what++) {
            int w = what;
            States.changesNothing("bits(0, " + w + ")", y -> y.bits(0, w));
        }
    }

    private static void castThousandths() {
        LeastShadows x = Made.cube(6, 0, 1, -1, Long.MAX_VALUE, 7);
        long[] cut = {x.bits(0, 2), x.bits(1, 2), x.bits(2, 2), x.bits(3, 2), x.bits(4, 2)};
        Due.are("0, 15.625, 1000, 984.375, 46.875", cut, 0, 15, 1000, 984, 46);
    }

    private static void bitsVoid() {
        for (int what : new int[] {-1, 3, LEAST_INT, GREATEST_INT}) {
            States.refused("what " + what, x -> x.bits(0, what), Made.NONE);
        }
        for (int family : new int[] {-1, 8, LEAST_INT, GREATEST_INT}) {
            for (int what = 0; what <= 2; what++) {
                int w = what;
                States.refused("family " + family, x -> x.bits(family, w), Made.NONE);
            }
        }
        Due.is("the number behind the last", Made.families(1).bits(1, 0), Made.NONE);
    }

    private static void meanOfNone() {
        for (int n = 1; n <= 6; n++) {
            LeastShadows x = Made.cube(n, 0, Made.all(n));
            x.set(1, 0, 1);
            long[] none = {x.bits(0, 0), x.bits(0, 1), x.bits(0, 2), x.bits(1, 0), x.bits(1, 1), x.bits(1, 2)};
            Due.are("none TOLD, none by its KIND, n " + n, none, 0, Made.NONE, 0, 0, Made.NONE, 0);
        }
        Due.is("the SET without ELEMENTS is one", Made.families(1).bits(0, 1), 0);
    }

    private static void weight() {
        for (int n = 1; n <= 6; n++) {
            LeastShadows x = Made.cube(n, 0, 1, Made.top(n), 2);
            long[] some = {x.weight(0), x.weight(1), x.weight(2), x.weight(3)};
            Due.are("none, the least, the greatest, a, n " + n, some, 0, Double.doubleToLongBits(1.0), Double.doubleToLongBits(1.0), Double.doubleToLongBits(1.0 / n));
        }
        Due.is("by its KIND", Made.kind(4, 2, 0, 1L << 14).weight(0), Double.doubleToLongBits(0.25));
        States.changesNothing("weight(0)", y -> y.weight(0));
    }

    private static void weightVoid() {
        for (int family : new int[] {-1, 8, LEAST_INT, GREATEST_INT}) {
            States.refused("family " + family, x -> x.weight(family), Made.NONE);
        }
        Due.is("the number behind the last", Made.families(1).weight(1), Made.NONE);
        Due.is("none is no VOID", Made.families(0).weight(0), 0);
    }

    // ---- told profiles

    /** All sets of n, and a list of a sort that tells so many sizes of their profile. */
    private static LeastShadows judged(int n, int sort, int told) {
        LeastShadows x = Made.cube(n, Made.all(n));
        x.list(1, sort, told);
        for (int size = 0; size < told && size <= n; size++) {
            x.put(1, size, CHOICES[n][size]);
        }
        return x;
    }

    private static void firstOtherSize() {
        for (int n = 1; n <= 6; n++) {
            for (int size = n; size >= 0; size--) {
                LeastShadows x = judged(n, size % 2, n + 1);
                x.put(1, size, CHOICES[n][size] + 1);
                Due.is("size " + size + " of n " + n, x.judge(1, 0), size);
                x.put(1, n, -1);
                Due.is("the first of two", x.judge(1, 0), size);
                x.put(1, size, -CHOICES[n][size]);
                Due.is("below 0", x.judge(1, 0), size);
            }
        }
        LeastShadows x = judged(4, 1, 5);
        x.put(1, 2, 6L | 1L << 32);
        Due.is("a long of like lowest bits is otherwise", x.judge(1, 0), 2);
        x.put(1, 2, 6);
        x.put(1, 4, Long.MIN_VALUE | 1);
        Due.is("the least long and one", x.judge(1, 0), 4);
        x = judged(4, 0, 5);
        x.put(1, 2, 6L | 1L << 32);
        Due.is("an int has its lowest bits alone", x.judge(1, 0), -2);
    }

    private static void noneOtherwise() {
        for (int n = 1; n <= 6; n++) {
            for (int sort = 0; sort <= 1; sort++) {
                Due.is("as many as sizes, n " + n, judged(n, sort, n + 1).judge(1, 0), -2);
                LeastShadows x = judged(n, sort, 20);
                x.put(1, n + 1, 77);
                Due.is("what stands behind does not matter, n " + n, x.judge(1, 0), -2);
            }
        }
        LeastShadows x = Made.families(0);
        x.list(0, 0, 5);
        Due.is("of no SETS", x.judge(0, 0), -2);
        x.set(0, 0, 1);
        Due.is("by its KIND", x.judge(0, 0), 0);
    }

    private static void listEnds() {
        for (int n = 1; n <= 6; n++) {
            for (int told = 0; told <= n; told++) {
                Due.is(told + " told of n " + n, judged(n, 0, told).judge(1, 0), 100 + told);
            }
            LeastShadows x = judged(n, 0, n);
            x.put(1, n - 1, -1);
            Due.is("another one ahead of the end, n " + n, x.judge(1, 0), n - 1);
        }
    }

    private static void justTheLastIsNotTold() {
        for (int n = 1; n <= 6; n++) {
            Due.is("n " + n, judged(n, 1, n).judge(1, 0), 100 + n);
            Due.is("told, too, n " + n, judged(n, 1, n + 1).judge(1, 0), -2);
        }
    }

    private static void judge() {
        LeastShadows x = Made.families(65535, 1);
        for (int list = 0; list < 3; list++) {
            x.list(list, 0, 5);
            x.put(list, 0, 1);
            Due.is("all", x.judge(list, 0), 1);
            Due.is("one", x.judge(list, 1), -2);
        }
        States.changesNothing("judge(0, 0)", y -> y.judge(0, 0) + y.judge(1, 0));
    }

    private static void judgeBad() {
        for (int list : new int[] {-1, 3, LEAST_INT, GREATEST_INT}) {
            States.refused("list " + list, x -> x.judge(list, 0), -1);
        }
        for (int family : new int[] {-1, 8, LEAST_INT, GREATEST_INT}) {
            for (int list = 0; list < 3; list++) {
                int l = list;
                States.refused("family " + family + ", also by a missing list", x -> x.judge(l, family), -1);
            }
        }
        States.refused(LeastShadows::new, "no family, no list: BAD is ahead", x -> x.judge(0, 0), -1);
    }

    private static void judgeMissing() {
        LeastShadows x = Made.families(1);
        for (int list = 0; list < 3; list++) {
            Due.is("missing", x.judge(list, 0), -11);
            x.list(list, 0, 0);
            Due.is("none told is not missing", x.judge(list, 0), 100);
            x.list(list, -1, 5);
            Due.is("missing again", x.judge(list, 0), -11);
        }
        States.refused(States::rich, "missing", y -> y.judge(2, 0), -11);
    }

    // ---- lots

    private static long drawn(int n, int p, int[] z) {
        long drawn = 0;
        for (int s = 0; s < 1 << n; s++) {
            z[0] = z[0] * 1103515245 + 12345;
            drawn |= (z[0] & 0x7fffffff) / 65536 % 100 < p ? 1L << s : 0;
        }
        return drawn;
    }

    private static int lotsOf(int n, int t, int p, int seed, int what) {
        int[] z = {seed};
        int together = 0;
        for (int i = 0; i < t; i++) {
            together += Made.cube(n, drawn(n, p, z)).of(0, what == 0 ? 5 : 6);
        }
        return together;
    }

    private static void lotsOfAll() {
        for (int n = 1; n <= 6; n++) {
            LeastShadows x = Made.cube(n);
            for (int what = 0; what <= 1; what++) {
                Due.is("p 0, n " + n, x.lots(20, 0, 5, what), 0);
                Due.is("p 100, n " + n, x.lots(20, 100, 5, what), 0);
                for (int t : new int[] {1, 2, 20}) {
                    for (int p : new int[] {1, 50, 99}) {
                        Due.is("t " + t + ", p " + p + ", n " + n, x.lots(t, p, 31 * p, what), lotsOf(n, t, p, 31 * p, what));
                    }
                }
            }
        }
    }

    private static void draws() {
        LeastShadows x = Made.cube(6);
        for (int z : new int[] {0, 1, -1, LEAST_INT, GREATEST_INT, 1103515245, -12345, LEAST_INT + 1}) {
            for (int what = 0; what <= 1; what++) {
                Due.is("seed " + z, x.lots(1, 37, z, what), lotsOf(6, 1, 37, z, what));
            }
        }
    }

    private static void lotsGoOn() {
        LeastShadows x = new LeastShadows();
        int[] z = {2026};
        int first = Made.families(drawn(4, 50, z)).of(0, 6);
        Due.is("the first of two", x.lots(1, 50, 2026, 1), first);
        Due.is("the second begins with the z of the first", x.lots(2, 50, 2026, 1), first + x.lots(1, 50, z[0], 1));
        Due.is("the next call begins anew", x.lots(1, 50, 2026, 1), first);
    }

    private static void lots() {
        States.changesNothing("lots(2, 50, 3, 0)", y -> y.lots(2, 50, 3, 0));
        LeastShadows x = new LeastShadows();
        Due.is("no SETS, t 1", x.lots(1, 0, 0, 0), 0);
        Due.is("all SETS, t 1", x.lots(1, 100, 0, 1), 0);
        Due.is("n 1, borders", Made.cube(1).lots(20, 50, 7, 0), lotsOf(1, 20, 50, 7, 0));
        Due.is("n 6, edges", Made.cube(6).lots(20, 50, 7, 1), lotsOf(6, 20, 50, 7, 1));
    }

    private static void lotsBad() {
        for (int t : new int[] {0, 21, -1, LEAST_INT, GREATEST_INT}) {
            States.refused("t " + t, x -> x.lots(t, 50, 1, 0), -1);
        }
        for (int p : new int[] {-1, 101, LEAST_INT, GREATEST_INT}) {
            States.refused("p " + p, x -> x.lots(1, p, 1, 0), -1);
        }
        for (int what : new int[] {-1, 2, LEAST_INT, GREATEST_INT}) {
            States.refused("what " + what, x -> x.lots(1, 50, 1, what), -1);
        }
    }
}
