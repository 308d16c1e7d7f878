/** Promises 44 to 46: acts of families. */
public final class ActTest {
    public static void main(String[] args) {
        acts();
        wraps();
        refusals();
        taken();
        Due.end();
    }

    private static void ran(LeastShadows x, String call, long... bodies) {
        for (int i = 0; i < bodies.length; i++) {
            Due.is(call + ", body " + i, x.trace(i), bodies[i]);
        }
        Due.is(call + ", none behind", x.trace(bodies.length), -2);
        Due.is(call + ", none ahead", x.trace(-1), -2);
    }

    /** The family is number 3, its figure 7. */
    private static void acts() {
        LeastShadows x = new LeastShadows();
        for (int i = 0; i < 4; i++) {
            x.come(i);
        }
        x.set(3, 1, 7);
        long[][] answers = {
            {8, 16, 9}, {8, 16 ^ 3, (16 ^ 3) - 7}, {-8, -16, -23},
            {8, 16 + 5, 21 - 7}, {8, 21, 14 ^ 7}, {-24, -48, -9 * 3 * 2 - 7}
        };
        long[][][] traces = {
            {{10}, {11, 10}, {12, 11, 10}},
            {{10}, {20, 11, 10}, {12, 20, 11, 10}},
            {{30, 10}, {11, 30, 10}, {12, 11, 30, 10}},
            {{10}, {50, 11, 10, 10}, {12, 50, 11, 10, 10}},
            {{10}, {50, 11, 10, 10}, {60, 12, 50, 11, 10, 10}},
            {{41, 30, 10}, {11, 41, 30, 10}, {40, 12, 11, 41, 30, 10}}
        };
        for (int kind = 0; kind < 6; kind++) {
            x.set(3, 0, kind);
            for (int act = 0; act < 3; act++) {
                String call = "act " + act + " of kind " + kind;
                Due.is(call, x.act(3, act, 5), answers[kind][act]);
                ran(x, call, traces[kind][act]);
            }
        }
    }

    private static void wraps() {
        LeastShadows x = new LeastShadows();
        x.come(0);
        x.come(0);
        Due.is("grows wraps", x.act(1, 0, Integer.MAX_VALUE), Integer.MIN_VALUE);
        Due.is("turns wraps", x.act(1, 1, Integer.MAX_VALUE), 0);
        x.set(1, 0, 5);
        Due.is("tells wraps", x.act(1, 2, Integer.MAX_VALUE), 0 - (Integer.MIN_VALUE + 1) * 6);
        x.set(1, 0, 2);
        Due.is("the least int turned", x.act(1, 0, Integer.MAX_VALUE), Integer.MIN_VALUE);
    }

    private static void refusals() {
        LeastShadows x = new LeastShadows();
        Due.is("no act yet", x.trace(0), -2);
        x.come(0);
        x.act(0, 1, 4);
        long[] bad = {x.act(1, 0, 5), x.act(-1, 0, 5), x.act(0, 3, 5), x.act(0, -1, 5)};
        Due.are("bad act()", bad, 0, 0, 0, 0);
        ran(x, "the trace stays", 11, 10);
    }

    private static void taken() {
        LeastShadows x = new LeastShadows();
        x.come(0);
        x.come(0);
        x.set(1, 1, 8);
        long[][] want = {
            {1, -5, -5, -5, -5, -5}, {1, 1, -5, -5, -5, -5}, {1, -5, 1, -5, -5, -5},
            {1, -5, -5, 8, -5, -5}, {1, -5, -5, 8, 8, -5}, {1, -5, 1, -5, -5, 1}
        };
        for (int kind = 0; kind < 6; kind++) {
            x.set(1, 0, kind);
            long[] got = new long[6];
            for (int k = 0; k < 6; k++) {
                got[k] = x.taken(1, k);
            }
            Due.are("kind " + kind + " taken", got, want[kind]);
        }
        long[] bad = {x.taken(2, 0), x.taken(-1, 0), x.taken(0, 6), x.taken(0, -1)};
        Due.are("bad taken()", bad, -1, -1, -1, -1);
    }
}
