/** Acts of families: the sentences of the terms, and promises 44 to 46. */
final class ActEdges {
    private static final int LEAST_INT = Integer.MIN_VALUE, GREATEST_INT = Integer.MAX_VALUE;
    private static final int GROWS = 0, TURNS = 1, TELLS = 2;
    private static final int[] NUMBERS = {0, 1, -1, 5, 1000, GREATEST_INT, LEAST_INT, GREATEST_INT - 6, LEAST_INT + 7, 0x55555555};

    private ActEdges() { }

    static void test() {
        terms();
        bodies();
        promises();
    }

    private static void terms() {
        Sentences.of("Terms", "ACTS of a FAMILY with x (an int that wraps): 0 grows, 1 turns, 2 tells; i its number, f its FIGURE.", ActEdges::wraps);
        Sentences.of("Terms", "grows(..) and so on: the body of its own KIND, or of the next KIND above that has one;", ActEdges::itsOwnBody);
        Sentences.of("Terms", "super: from the KIND above the body's on;", ActEdges::superBodies);
        Sentences.of("Terms", "what stands in a body is done from the left on.", ActEdges::fromTheLeft);
        Sentences.of("Terms", "THE TRACE: numbers of the bodies that ran in the latest act() that was not BAD, as they began;", ActEdges::latestTrace);
        Sentences.of("Terms", "the first 24 are kept.", ActEdges::allAreKept);
        Sentences.of("Terms", "taken() goes by the KIND asked.", ActEdges::takenByTheKindAsked);
    }

    private static void bodies() {
        Sentences.of("Terms", "BODIES: FAMILY: 10 grows: x + i.", () -> body(0, GROWS, 10));
        Sentences.of("Terms", "11 turns: grows(x) * 2.", () -> body(0, TURNS, 11, 10));
        Sentences.of("Terms", "12 tells: turns(x) - f.", () -> body(0, TELLS, 12, 11, 10));
        Sentences.of("Terms", "OTHERS: 20 turns: super.turns(x) ^ 3.", () -> body(1, TURNS, 20, 11, 10));
        Sentences.of("Terms", "TURNED: 30 grows: -super.grows(x).", () -> body(2, GROWS, 30, 10));
        Sentences.of("Terms", "MIRRORED: 40 tells: super.tells(x + 1).", () -> body(5, TELLS, 40, 12, 11, 41, 30, 10));
        Sentences.of("Terms", "41 grows: super.grows(x) * 3.", () -> body(5, GROWS, 41, 30, 10));
        Sentences.of("Terms", "LEVEL: 50 turns: super.turns(x) + grows(2).", () -> body(3, TURNS, 50, 11, 10, 10));
        Sentences.of("Terms", "BELOW: 60 tells: super.tells(x) ^ f.", () -> body(4, TELLS, 60, 12, 50, 11, 10, 10));
    }

    private static void promises() {
        Sentences.of("Promise 44", "An ACT (0 .. 2) of a FAMILY with x.", ActEdges::act);
        Sentences.of("Promise 44", "0, and nothing else, if BAD.", ActEdges::actBad);
        Sentences.of("Promise 45", "THE TRACE's i-th body.", ActEdges::trace);
        Sentences.of("Promise 45", "NOT: none such.", ActEdges::traceNot);
        Sentences.of("Promise 46", "A FAMILY taken for one of KIND k (0 .. 5), or one under that: its FIGURE by k 3, 4, else its number.", ActEdges::taken);
        Sentences.of("Promise 46", "BAD;", ActEdges::takenBad);
        Sentences.of("Promise 46", "STATE: it is none.", ActEdges::takenState);
    }

    // ---- the plain way: answers by kind, as the bodies come to

    private static int grown(int kind, int i, int x) {
        return kind == 2 ? -(x + i) : kind == 5 ? -(x + i) * 3 : x + i;
    }

    private static int turned(int kind, int i, int x) {
        int twice = grown(kind, i, x) * 2;
        return kind == 1 ? twice ^ 3 : kind == 3 || kind == 4 ? twice + grown(kind, i, 2) : twice;
    }

    private static int told(int kind, int i, int f, int x) {
        int plain = turned(kind, i, kind == 5 ? x + 1 : x) - f;
        return kind == 4 ? plain ^ f : plain;
    }

    private static int answer(int kind, int act, int i, int f, int x) {
        return act == GROWS ? grown(kind, i, x) : act == TURNS ? turned(kind, i, x) : told(kind, i, f, x);
    }

    /** A family of this number, of a kind and with a figure. */
    private static LeastShadows made(int number, int kind, int figure) {
        LeastShadows x = new LeastShadows();
        for (int i = 0; i <= number; i++) {
            x.come(3);
        }
        x.set(number, 1, figure);
        x.set(number, 0, kind);
        return x;
    }

    private static void ran(LeastShadows x, String call, int... bodies) {
        for (int i = 0; i < bodies.length; i++) {
            Due.is(call + ", body " + i, x.trace(i), bodies[i]);
        }
        Due.is(call + ", no more", x.trace(bodies.length), -2);
    }

    // ---- terms

    private static void body(int kind, int act, int... bodies) {
        for (int number : new int[] {0, 1, 7}) {
            for (int figure : new int[] {0, 1, 9}) {
                LeastShadows x = made(number, kind, figure);
                for (int with : NUMBERS) {
                    String call = "act " + act + " of kind " + kind + ", i " + number + ", f " + figure + ", x " + with;
                    Due.is(call, x.act(number, act, with), answer(kind, act, number, figure, with));
                    ran(x, call, bodies);
                }
            }
        }
    }

    private static void wraps() {
        LeastShadows x = made(7, 0, 9);
        Due.is("x + i beyond the greatest int", x.act(7, GROWS, GREATEST_INT), LEAST_INT + 6);
        Due.is("twice that", x.act(7, TURNS, GREATEST_INT), 12);
        Due.is("less f", x.act(7, TELLS, GREATEST_INT), 3);
        Due.is("less f below the least int", made(0, 0, 9).act(0, TELLS, LEAST_INT / 2), LEAST_INT - 9);
        LeastShadows turned = made(1, 2, 0);
        Due.is("the least int is its own opposite", turned.act(1, GROWS, GREATEST_INT), LEAST_INT);
        LeastShadows mirrored = made(0, 5, 0);
        Due.is("x + 1 beyond the greatest int", mirrored.act(0, TELLS, GREATEST_INT), 0);
        Due.is("thrice", mirrored.act(0, GROWS, GREATEST_INT), -2147483645);
        Due.is("i is its number", made(3, 0, 0).act(3, GROWS, 0), 3);
        Due.is("f is its FIGURE", made(0, 0, 8).act(0, TELLS, 0), -8);
    }

    private static void itsOwnBody() {
        LeastShadows x = made(2, 5, 4);
        x.act(2, TURNS, 1);
        ran(x, "MIRRORED turns by FAMILY's body, which grows by its own", 11, 41, 30, 10);
        x.set(2, 0, 2);
        x.act(2, TELLS, 1);
        ran(x, "TURNED tells by FAMILY's body, which grows by its own", 12, 11, 30, 10);
        x.set(2, 0, 4);
        x.act(2, TURNS, 1);
        ran(x, "BELOW turns by LEVEL's body", 50, 11, 10, 10);
        x.act(2, GROWS, 1);
        ran(x, "BELOW grows by FAMILY's body", 10);
        x.set(2, 0, 1);
        x.act(2, TELLS, 1);
        ran(x, "OTHERS tells by FAMILY's body, which turns by its own", 12, 20, 11, 10);
        x.set(2, 0, 3);
        x.act(2, TELLS, 1);
        ran(x, "LEVEL tells by FAMILY's body, which turns by its own", 12, 50, 11, 10, 10);
    }

    private static void superBodies() {
        LeastShadows x = made(1, 5, 2);
        x.act(1, TELLS, 1);
        ran(x, "MIRRORED's super tells: TURNED has none, FAMILY has", 40, 12, 11, 41, 30, 10);
        x.act(1, GROWS, 1);
        ran(x, "MIRRORED's super grows: TURNED's", 41, 30, 10);
        x.set(1, 0, 4);
        x.act(1, TELLS, 1);
        ran(x, "BELOW's super tells: LEVEL has none, FAMILY has", 60, 12, 50, 11, 10, 10);
        x.act(1, TURNS, 1);
        ran(x, "LEVEL's body in BELOW: its super is FAMILY's", 50, 11, 10, 10);
    }

    private static void fromTheLeft() {
        LeastShadows x = made(0, 3, 0);
        Due.is("super.turns(x) ahead of grows(2)", x.act(0, TURNS, 100), 202);
        ran(x, "LEVEL turns", 50, 11, 10, 10);
        x = made(0, 4, 6);
        Due.is("all of tells(x), then by f", x.act(0, TELLS, 1), (2 + 2 - 6) ^ 6);
        ran(x, "BELOW tells", 60, 12, 50, 11, 10, 10);
    }

    private static void latestTrace() {
        LeastShadows x = made(0, 5, 1);
        Due.is("none at first", x.trace(0), -2);
        x.act(0, TELLS, 1);
        ran(x, "six", 40, 12, 11, 41, 30, 10);
        x.act(0, GROWS, 1);
        ran(x, "the latest alone", 41, 30, 10);
        x.act(1, TELLS, 1);
        x.act(0, 3, 1);
        x.act(-1, TELLS, 1);
        ran(x, "BAD ones leave it", 41, 30, 10);
        x.set(0, 0, 0);
        x.drop();
        x.cube(2);
        ran(x, "others leave it", 41, 30, 10);
        x.image();
        x.back();
        ran(x, "back() leaves it", 41, 30, 10);
    }

    /** No act runs more than six bodies, so that none is left out. */
    private static void allAreKept() {
        int[][] many = {{1, 2, 3}, {1, 3, 4}, {2, 3, 4}, {1, 4, 5}, {1, 4, 6}, {3, 4, 6}};
        for (int kind = 0; kind < 6; kind++) {
            LeastShadows x = made(0, kind, 3);
            for (int act = 0; act < 3; act++) {
                x.act(0, act, 2);
                Due.holds("the last is there", x.trace(many[kind][act] - 1) == 10);
                Due.is("no more", x.trace(many[kind][act]), -2);
                Due.is("none at 23", x.trace(23), -2);
                Due.is("none at 24", x.trace(24), -2);
            }
        }
    }

    private static void takenByTheKindAsked() {
        LeastShadows x = made(3, 4, 7);
        long[] below = {x.taken(3, 0), x.taken(3, 3), x.taken(3, 4)};
        Due.are("BELOW: its number for FAMILY, its FIGURE for LEVEL and BELOW", below, 3, 7, 7);
        x.set(3, 0, 3);
        long[] level = {x.taken(3, 0), x.taken(3, 3), x.taken(3, 4)};
        Due.are("LEVEL", level, 3, 7, -5);
        x.set(3, 0, 5);
        long[] mirrored = {x.taken(3, 0), x.taken(3, 2), x.taken(3, 5), x.taken(3, 3)};
        Due.are("MIRRORED: its number", mirrored, 3, 3, 3, -5);
    }

    // ---- promises

    private static void act() {
        for (int kind = 0; kind < 6; kind++) {
            LeastShadows x = made(7, kind, 9);
            for (int act = 0; act < 3; act++) {
                for (int with : NUMBERS) {
                    Due.is("act " + act + " of kind " + kind + " with " + with, x.act(7, act, with), answer(kind, act, 7, 9, with));
                }
            }
        }
        States.changes(States::rich, "act(1, 0, 3)", y -> y.act(1, 0, 3), "trace");
        States.changes(States::full, "act(0, 1, 3)", y -> y.act(0, 1, 3), "trace");
    }

    private static void actBad() {
        for (int family : new int[] {-1, 8, LEAST_INT, GREATEST_INT}) {
            States.refused("family " + family, x -> x.act(family, 0, 5), 0);
        }
        for (int act : new int[] {-1, 3, LEAST_INT, GREATEST_INT}) {
            States.refused("act " + act, x -> x.act(0, act, 5), 0);
        }
        States.refused(LeastShadows::new, "none", x -> x.act(0, 0, 5), 0);
        States.refused(States::rich, "the number behind the last", x -> x.act(2, 0, 5), 0);
    }

    private static void trace() {
        LeastShadows x = made(0, 4, 3);
        x.act(0, TELLS, 1);
        long[] row = {x.trace(0), x.trace(1), x.trace(2), x.trace(3), x.trace(4), x.trace(5)};
        Due.are("as they began", row, 60, 12, 50, 11, 10, 10);
        States.changesNothing("trace(0)", y -> y.trace(0));
    }

    private static void traceNot() {
        for (int i : new int[] {-1, 6, 24, LEAST_INT, GREATEST_INT}) {
            States.refused("body " + i, x -> x.trace(i), -2);
        }
        States.refused(LeastShadows::new, "no act yet", x -> x.trace(0), -2);
        LeastShadows x = made(0, 0, 0);
        x.act(0, GROWS, 1);
        Due.is("behind one", x.trace(1), -2);
    }

    private static void taken() {
        long[][] want = {
            {7, -5, -5, -5, -5, -5}, {7, 7, -5, -5, -5, -5}, {7, -5, 7, -5, -5, -5},
            {7, -5, -5, 9, -5, -5}, {7, -5, -5, 9, 9, -5}, {7, -5, 7, -5, -5, 7}
        };
        for (int kind = 0; kind < 6; kind++) {
            LeastShadows x = made(7, kind, 9);
            for (int k = 0; k < 6; k++) {
                Due.is("kind " + kind + " taken for " + k, x.taken(7, k), want[kind][k]);
            }
        }
        LeastShadows x = made(5, 3, 0);
        Due.is("FIGURE 0", x.taken(5, 3), 0);
        Due.is("number 0", x.taken(0, 0), 0);
        States.changesNothing("taken(0, 0)", y -> y.taken(0, 0));
    }

    private static void takenBad() {
        for (int family : new int[] {-1, 8, LEAST_INT, GREATEST_INT}) {
            States.refused("family " + family, x -> x.taken(family, 0), -1);
        }
        for (int k : new int[] {-1, 6, LEAST_INT, GREATEST_INT}) {
            States.refused("BAD ahead of STATE, k " + k, x -> x.taken(0, k), -1);
        }
        States.refused(States::rich, "the number behind the last", x -> x.taken(2, 0), -1);
    }

    private static void takenState() {
        for (int k = 1; k < 6; k++) {
            Due.is("a FAMILY is none of kind " + k, made(0, 0, 5).taken(0, k), -5);
        }
        Due.is("LEVEL is no BELOW", made(0, 3, 5).taken(0, 4), -5);
        Due.is("TURNED is no MIRRORED", made(0, 2, 5).taken(0, 5), -5);
        States.refused(States::full, "BELOW is no TURNED", x -> x.taken(7, 2), -5);
    }
}
