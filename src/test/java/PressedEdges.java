/** What is pressed together: the sentences of the terms, and promises 10 to 12. */
final class PressedEdges {
    private static final int LEAST_INT = Integer.MIN_VALUE, GREATEST_INT = Integer.MAX_VALUE;

    private PressedEdges() { }

    static void test() {
        Sentences.of("Terms", "PRESSED by ELEMENTS i, j (i below j): each SET of them with j, without i, from which, with i in j's place, one comes that is none of them, becomes that (all at once).", PressedEdges::pressedSets);
        Sentences.of("Terms", "AT REST: PRESSED by any two they are as they were.", PressedEdges::atRest);
        Sentences.of("Terms", "ROUNDS: PRESSED by (0, 1), (0, 2), (1, 2), (0, 3), .. (by j, then by i), and again from the first on, till they are AT REST: how often they became others by that.", PressedEdges::roundsInTheirOrder);
        Sentences.of("Terms", "ROUNDS counts each PRESSING by a pair by which something is otherwise.", PressedEdges::roundsCountPairs);
        Sentences.of("Promise 10", "SETS of a FAMILY PRESSED by i, j.", PressedEdges::pressed);
        Sentences.of("Promise 10", "VOID: family, i, j (i not below j).", PressedEdges::pressedVoid);
        Sentences.of("Promise 11", "SETS of a FAMILY PRESSED till they are AT REST come as one more (of KIND 0, FIGURE 0): its number.", PressedEdges::press);
        Sentences.of("Promise 11", "BAD;", PressedEdges::pressBad);
        Sentences.of("Promise 11", "FULL.", PressedEdges::pressFull);
        Sentences.of("Promise 12", "ROUNDS.", PressedEdges::rounds);
        Sentences.of("Promise 12", "BAD.", PressedEdges::roundsBad);
    }

    private static void pressedSets() {
        LeastShadows x = Made.families(1L << 1, 1L << 2, 1L << 3, 1, 1L << 1 | 1L << 2, 0, 65535);
        Due.is("with i, without j, stays", x.pressed(0, 0, 1), 1L << 1);
        Due.is("with j, without i, goes", x.pressed(1, 0, 1), 1L << 1);
        Due.is("with both stays", x.pressed(2, 0, 1), 1L << 3);
        Due.is("without both stays", x.pressed(3, 0, 1), 1);
        Due.is("stays where that is one of them", x.pressed(4, 0, 1), 1L << 1 | 1L << 2);
        Due.is("none", x.pressed(5, 0, 1), 0);
        Due.is("all", x.pressed(6, 2, 3), 65535);
        x = Made.families(1L << 2 | 1L << 6 | 1L << 10 | 1L << 14);
        Due.is("all at once", x.pressed(0, 0, 1), 1L << 1 | 1L << 5 | 1L << 9 | 1L << 13);
        x = Made.cube(6, 1L << 32 | 1L << 48 | 1L << 63 | 1L << 47);
        Due.is("ef stays, f goes by e, f; and all but e stays", x.pressed(0, 4, 5), 1L << 16 | 1L << 48 | 1L << 63 | 1L << 31);
    }

    /** Of the single elements up to j all but the one ahead of j: by j and that one alone something becomes otherwise. */
    private static void atRest() {
        for (int n = 1; n <= 6; n++) {
            LeastShadows x = Made.cube(n, 0, Made.all(n), 1, Made.top(n));
            for (int f = 0; f < 4; f++) {
                Due.is("none, all, the least, the greatest, n " + n, x.is(f, 3), 1);
            }
            long singles = 0;
            for (int j = 0; j < n; j++) {
                singles |= 1L << (1 << j);
                Due.is("singles up to " + j + ", n " + n, Made.cube(n, singles).is(0, 3), 1);
                if (j > 0) {
                    Due.is("but one ahead of " + j + ", n " + n, Made.cube(n, singles ^ 1L << (1 << (j - 1))).is(0, 3), 0);
                }
            }
        }
        for (int told = 0; told < 4; told++) {
            Due.is("n 1 has no two", Made.cube(1, told).is(0, 3), 1);
        }
    }

    /** Presses one pair after the other, by calls; answers how often something became otherwise. */
    private static int roundsByCalls(int n, long told, long[] atRest) {
        long now = told;
        int rounds = 0;
        for (int turn = 0; turn < 6; turn++) {
            for (int j = 1; j < n; j++) {
                LeastShadows x = Made.cube(n);
                for (int i = 0; i < j; i++) {
                    long next = x.pressed(x.come(now), i, j);
                    x.drop();
                    rounds += next == now ? 0 : 1;
                    now = next;
                }
            }
        }
        atRest[0] = now;
        return rounds;
    }

    private static void roundsInTheirOrder() {
        long some = 0x9C3E15B7A24D8F60L;
        for (int n = 1; n <= 6; n++) {
            for (int turn = 0; turn < 12; turn++) {
                some = some * 6364136223846793005L + 1442695040888963407L;
                long told = (turn % 2 == 0 ? some : some & some << 21 & some << 42) & Made.all(n);
                long[] atRest = new long[1];
                int rounds = roundsByCalls(n, told, atRest);
                LeastShadows x = Made.cube(n, told);
                Due.is("rounds of " + told + ", n " + n, x.rounds(0), rounds);
                Due.is("at rest", x.sets(x.press(0), 0), atRest[0]);
                Due.is("indeed", x.is(1, 3), 1);
            }
        }
        LeastShadows x = Made.cube(3, 1L << 6);
        Due.is("bc: (0, 1) ahead of (0, 2), then (1, 2)", x.rounds(0), 2);
        x = Made.families(1L << 4 | 1L << 8);
        Due.is("c, d: (0, 2) makes it a, d, (1, 3) a, b", x.rounds(0), 2);
        x = Made.families(1L << 8 | 1L << 12);
        Due.is("d, cd: (0, 2) makes it d, ad, (0, 3) a, ad, (1, 3) a, ab", x.rounds(0), 3);
    }

    private static void roundsCountPairs() {
        LeastShadows x = Made.families(1L << 2 | 1L << 6 | 1L << 10 | 1L << 14, 1L << 2);
        Due.is("four sets at once are one", x.rounds(0), roundsByCalls(4, x.sets(0, 0), new long[1]));
        Due.is("b: one pair alone", x.rounds(1), 1);
        Due.is("bc, bd of n 4: two by (0, 1), which is one", Made.families(1L << 6 | 1L << 10).rounds(0), 3);
    }

    private static void pressed() {
        LeastShadows x = Made.kind(4, 2, 0, 1L << 7);
        Due.is("by its KIND: d becomes a", x.pressed(0, 0, 3), 1L << 1);
        Due.is("the FAMILY stays", x.sets(0, 0), 1L << 8);
        for (int n = 2; n <= 6; n++) {
            LeastShadows y = Made.cube(n, 1L << (1 << (n - 1)));
            for (int i = 0; i < n - 1; i++) {
                Due.is("the greatest by " + i + ", n " + n, y.pressed(0, i, n - 1), 1L << (1 << i));
            }
        }
        States.changesNothing("pressed(0, 0, 1)", y -> y.pressed(0, 0, 1));
    }

    private static void pressedVoid() {
        for (int family : new int[] {-1, 8, LEAST_INT, GREATEST_INT}) {
            States.refused("family " + family, x -> x.pressed(family, 0, 1), Made.NONE);
        }
        Due.is("the number behind the last", Made.families(1).pressed(1, 0, 1), Made.NONE);
        int[][] pairs = {{-1, 0}, {-1, 1}, {0, 0}, {1, 1}, {1, 0}, {0, -1}, {0, 6}, {6, 7}, {5, 6}, {LEAST_INT, 1},
            {0, GREATEST_INT}, {GREATEST_INT, LEAST_INT}, {0, 32}, {32, 33}};
        for (int[] pair : pairs) {
            States.refused("i " + pair[0] + ", j " + pair[1], x -> x.pressed(0, pair[0], pair[1]), Made.NONE);
        }
        for (int n = 1; n <= 6; n++) {
            LeastShadows x = Made.cube(n, 0);
            Due.is("j n, n " + n, x.pressed(0, 0, n), Made.NONE);
            Due.is("j n - 1 with itself, n " + n, x.pressed(0, n - 1, n - 1), Made.NONE);
            Due.is("the other way round, n " + n, x.pressed(0, n - 1, 0), Made.NONE);
        }
    }

    private static void press() {
        LeastShadows x = Made.families(1L << 3 | 1L << 12 | 1L << 11, 0, 65535);
        x.set(0, 1, 5);
        x.set(0, 0, 5);
        Due.is("its number", x.press(0), 3);
        Due.is("KIND", x.of(3, 0), 0);
        Due.is("FIGURE", x.of(3, 1), 0);
        Due.is("by the KIND: ab, cd, abd turned and mirrored are ab, cd, b", x.sets(0, 0), 1L << 3 | 1L << 12 | 1L << 2);
        Due.is("these become a, ab, ac", x.sets(3, 0), 1L << 1 | 1L << 3 | 1L << 5);
        Due.is("the pressed one stays", x.of(0, 0), 5);
        Due.is("of none", x.press(1), 4);
        Due.is("none", x.sets(4, 0), 0);
        Due.is("of all", x.press(2), 5);
        Due.is("all", x.sets(5, 0), 65535);
        Due.is("what is AT REST comes, too", x.press(3), 6);
        Due.is("as it is", x.sets(6, 0), x.sets(3, 0));
        States.changes(States::rich, "press(0)", y -> y.press(0), "families", "changes");
        LeastShadows one = Made.cube(1, 2);
        Due.is("n 1", one.press(0), 1);
        Due.is("n 1, as it is", one.sets(1, 0), 2);
        LeastShadows six = Made.cube(6, 1L << 32 | 1L << 48);
        six.press(0);
        Due.is("f, ef of n 6: a, ab", six.sets(1, 0), 1L << 1 | 1L << 3);
    }

    private static void pressBad() {
        for (int family : new int[] {-1, 8, LEAST_INT, GREATEST_INT}) {
            States.refused("family " + family + ", also where it is FULL", x -> x.press(family), -1);
        }
        States.refused(LeastShadows::new, "none", x -> x.press(0), -1);
        States.refused(States::rich, "the number behind the last", x -> x.press(2), -1);
    }

    private static void pressFull() {
        States.refused(States::full, "a ninth", x -> x.press(0), -3);
        LeastShadows x = Made.fullOfFamilies();
        x.drop();
        Due.is("an eighth", x.press(1), 7);
        Due.is("no ninth", x.press(1), -3);
    }

    private static void rounds() {
        for (int n = 1; n <= 6; n++) {
            LeastShadows x = Made.cube(n, 0, Made.all(n), 1, Made.top(n), 1L << (1 << (n - 1)));
            long[] rounds = {x.rounds(0), x.rounds(1), x.rounds(2), x.rounds(3), x.rounds(4)};
            Due.are("none, all, the least, the greatest, the last element, n " + n, rounds, 0, 0, 0, 0, n > 1 ? 1 : 0);
        }
        Due.is("by its KIND: d", Made.kind(4, 2, 0, 1L << 7).rounds(0), 1);
        States.changesNothing("rounds(0)", y -> y.rounds(0));
    }

    private static void roundsBad() {
        for (int family : new int[] {-1, 8, LEAST_INT, GREATEST_INT}) {
            States.refused("family " + family, x -> x.rounds(family), -1);
        }
        Due.is("the number behind the last", Made.families(1).rounds(1), -1);
    }
}
