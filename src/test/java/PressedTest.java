/** Promises 10 to 12: pressed. */
public final class PressedTest {
    public static void main(String[] args) {
        pressed();
        press();
        rounds();
        Due.end();
    }

    private static void pressed() {
        LeastShadows x = new LeastShadows();
        x.come(1L << 2 | 1L << 4 | 1L << 6);
        Due.is("b, c, bc by a, b", x.pressed(0, 0, 1), 1L << 1 | 1L << 4 | 1L << 5);
        Due.is("by a, c", x.pressed(0, 0, 2), 1L << 2 | 1L << 1 | 1L << 3);
        Due.is("by b, c: b stands ahead", x.pressed(0, 1, 2), 1L << 2 | 1L << 4 | 1L << 6);
        Due.is("the family stays", x.sets(0, 0), 84);
        long none = LeastShadows.VOID;
        long[] bad = {x.pressed(1, 0, 1), x.pressed(-1, 0, 1), x.pressed(0, -1, 1), x.pressed(0, 0, 4),
            x.pressed(0, 1, 1), x.pressed(0, 2, 1)};
        Due.are("bad pressed()", bad, none, none, none, none, none, none);
        x.set(0, 0, 2);
        Due.is("acd, abd, ad by c, d", x.pressed(0, 2, 3), 1L << 13 | 1L << 7 | 1L << 5);
        x.cube(6);
        x.come(1L << 32 | 1L << 63);
        Due.is("f by a, f", x.pressed(0, 0, 5), 1L << 1 | 1L << 63);
    }

    private static void press() {
        LeastShadows x = new LeastShadows();
        Due.is("press(0) of none", x.press(0), -1);
        x.come(1L << 3 | 1L << 12 | 1L << 11);
        x.set(0, 1, 1);
        Due.is("press", x.press(0), 1);
        Due.is("ab, ac, abc", x.sets(1, 0), 168);
        Due.is("at rest", x.is(1, 3), 1);
        Due.is("kind", x.of(1, 0), 0);
        Due.is("figure", x.of(1, 1), 0);
        Due.is("no changes are left", x.count(2), 0);
        x.set(0, 0, 1);
        Due.is("by its kind", x.press(0), 2);
        Due.is("of the others' number", x.of(2, 2), 13);
        for (int i = 3; i < 8; i++) {
            x.press(2);
        }
        x.set(0, 0, 0);
        Due.is("FULL", x.press(0), -3);
        Due.is("BAD ahead of FULL", x.press(8), -1);
        Due.is("changes stay by a refusal", x.count(2), 1);
    }

    private static void rounds() {
        LeastShadows x = new LeastShadows();
        Due.is("rounds(0) of none", x.rounds(0), -1);
        Due.is("rounds(-1)", x.rounds(-1), -1);
        x.come(1L << 3 | 1L << 12 | 1L << 11);
        Due.is("two rounds", x.rounds(0), 2);
        x.come(0);
        Due.is("of no sets", x.rounds(1), 0);
        x.come(1L << 12);
        Due.is("cd: (0, 2) makes it ad, (1, 3) ab", x.rounds(2), 2);
        x.come(1L << 8);
        Due.is("d: (0, 3)", x.rounds(3), 1);
        x.come(1L << 10);
        Due.is("bd: (0, 1) makes it ad, (1, 3) ab", x.rounds(4), 2);
        x.come(1L << 2);
        Due.is("b: (0, 1)", x.rounds(5), 1);
        x.cube(3);
        x.come(1L << 4 | 1L << 6);
        Due.is("c, bc: (0, 1) makes it c, ac, (0, 2) a, ac, (1, 2) a, ab", x.rounds(0), 3);
        x.come(1L << 1 | 1L << 4);
        Due.is("a, c: (1, 2) makes it a, b", x.rounds(1), 1);
        x.cube(6);
        x.come(1L << 63 | 1L << 48 | 1L << 33 | 1L << 12 | 1L << 34);
        long now = x.sets(0, 0);
        int rounds = 0;
        for (int turn = 0; turn < 9; turn++) {
            for (int j = 1; j < 6; j++) {
                for (int i = 0; i < j; i++) {
                    long next = x.pressed(x.come(now), i, j);
                    x.drop();
                    rounds += next == now ? 0 : 1;
                    now = next;
                }
            }
        }
        Due.is("as pressing one by one tells", x.rounds(0), rounds);
        Due.is("at rest as then", x.sets(x.press(0), 0), now);
    }
}
