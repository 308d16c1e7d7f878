/** The cube and its families: each sentence of the terms, and promises 1 to 9. */
final class CubeEdges {
    private static final int LEAST_INT = Integer.MIN_VALUE, GREATEST_INT = Integer.MAX_VALUE;

    private CubeEdges() { }

    static void test() {
        terms();
        kindsOfTerms();
        promises();
    }

    private static void terms() {
        Sentences.of("Terms", "THE CUBE has ELEMENTS 0 .. n - 1 (n 1 .. 6; 4 at first).", CubeEdges::elements);
        Sentences.of("Terms", "SETS are 0 .. 2 to the n, less 1: as bits of ELEMENTS;", CubeEdges::setsOfACube);
        Sentences.of("Terms", "SIZE of one: how many it has.", CubeEdges::sizes);
        Sentences.of("Terms", "Sets of SETS are longs: bit s for SET s.", CubeEdges::bits);
        Sentences.of("Terms", "FAMILIES are numbered from 0 as they come, 8 at most,", CubeEdges::numbers);
        Sentences.of("Terms", "each of a KIND, with a FIGURE (0 .. 9) and TOLD SETS.", CubeEdges::figures);
        Sentences.of("Terms", "cube() takes all FAMILIES away.", CubeEdges::cubeTakesFamiliesAway);
        Sentences.of("Terms", "Sets of SETS, of CELLS have no bits beyond those there are.", CubeEdges::noBitsBeyond);
    }

    private static void kindsOfTerms() {
        Sentences.of("Terms", "SETS of a FAMILY by its KIND: 0 FAMILY: those TOLD.", CubeEdges::kindFamily);
        Sentences.of("Terms", "1 OTHERS under FAMILY: those not TOLD.", CubeEdges::kindOthers);
        Sentences.of("Terms", "2 TURNED under FAMILY: of each TOLD one that of all ELEMENTS it has not.", CubeEdges::kindTurned);
        Sentences.of("Terms", "3 LEVEL under FAMILY: those TOLD of SIZE FIGURE.", CubeEdges::kindLevel);
        Sentences.of("Terms", "4 BELOW under LEVEL: a LEVEL's, and all SETS that are parts of one of these.", CubeEdges::kindBelow);
        Sentences.of("Terms", "5 MIRRORED under TURNED: of each of a TURNED one's that with ELEMENT n - 1 - i for each ELEMENT i.", CubeEdges::kindMirrored);
        Sentences.of("Terms", "SHADOW of sets of SETS: all that come of one of them by taking one ELEMENT out;", CubeEdges::shadows);
        Sentences.of("Terms", "UPPER SHADOW: by one more ELEMENT.", CubeEdges::upperShadows);
        Sentences.of("Terms", "BORDER: SETS that are none of them, in their SHADOW or UPPER SHADOW.", CubeEdges::borders);
        Sentences.of("Terms", "EDGES: pairs of a SET of them and one that is none, of which the one comes of the other by an ELEMENT.", CubeEdges::edges);
        Sentences.of("Terms", "ANTICHAIN: no SET of a FAMILY is a part of another one of it.", CubeEdges::antichains);
        Sentences.of("Terms", "INTERSECTING: any two of its SETS, each with itself, too, have an ELEMENT in common.", CubeEdges::intersecting);
        Sentences.of("Terms", "DOWN: all parts of its SETS are its SETS.", CubeEdges::down);
        Sentences.of("Terms", "DOWN takes the SET without ELEMENTS, too, if there is any SET.", CubeEdges::downTakesTheEmptySet);
        Sentences.of("Terms", "A FAMILY without SETS is DOWN, an ANTICHAIN, INTERSECTING.", CubeEdges::withoutSets);
        Sentences.of("Terms", "PROFILE: how many of its SETS have SIZE 0, 1, .. n.", CubeEdges::profiles);
    }

    private static void promises() {
        Sentences.of("Promise 1", "n 4;", () -> Due.is("n", new LeastShadows().count(1), 4));
        Sentences.of("Promise 1", "no FAMILIES.", CubeEdges::newObject);
        Sentences.of("Promise 2", "THE CUBE has n ELEMENTS: how many there were.", CubeEdges::cubeTellsWhatWas);
        Sentences.of("Promise 2", "BAD.", CubeEdges::cubeBad);
        Sentences.of("Promise 3", "A FAMILY of TOLD SETS (of KIND 0, FIGURE 0): its number.", CubeEdges::come);
        Sentences.of("Promise 3", "BAD: bits beyond THE CUBE's SETS;", CubeEdges::comeBad);
        Sentences.of("Promise 3", "FULL: 8.", CubeEdges::comeFull);
        Sentences.of("Promise 4", "The last FAMILY goes: how many there are.", CubeEdges::drop);
        Sentences.of("Promise 4", "STATE: there is none.", CubeEdges::dropNone);
        Sentences.of("Promise 5", "KIND (what 0), FIGURE (1) of a FAMILY becomes v: what it was.", CubeEdges::set);
        Sentences.of("Promise 5", "BAD: family, what, v.", CubeEdges::setBad);
        Sentences.of("Promise 6", "SETS of a FAMILY (what 0), those TOLD (1), its SHADOW (2), UPPER SHADOW (3), BORDER (4).", CubeEdges::sets);
        Sentences.of("Promise 6", "VOID: BAD.", CubeEdges::setsVoid);
        Sentences.of("Promise 7", "Of a FAMILY: KIND (what 0), FIGURE (1), how many SETS (2), SHADOW SETS (3), UPPER ones (4), BORDER ones (5), EDGES (6).", CubeEdges::of);
        Sentences.of("Promise 7", "BAD.", CubeEdges::ofBad);
        Sentences.of("Promise 8", "ANTICHAIN (what 0), INTERSECTING (1), DOWN (2), AT REST (3): 1, 0.", CubeEdges::is);
        Sentences.of("Promise 8", "BAD.", CubeEdges::isBad);
        Sentences.of("Promise 9", "PROFILE at a SIZE (0 .. n).", CubeEdges::profile);
        Sentences.of("Promise 9", "BAD.", CubeEdges::profileBad);
    }

    // ---- terms

    private static void elements() {
        Due.is("at first", new LeastShadows().count(1), 4);
        for (int n = 1; n <= 6; n++) {
            LeastShadows x = Made.cube(n, 0);
            Due.is("n", x.count(1), n);
            Due.is("no element n " + n, x.pressed(0, n - 1, n), Made.NONE);
            if (n > 1) {
                Due.is("the greatest two of " + n, x.pressed(0, n - 2, n - 1), 0);
            }
        }
    }

    private static void setsOfACube() {
        for (int n = 1; n <= 6; n++) {
            LeastShadows x = Made.cube(n);
            int greatest = (1 << n) - 1;
            Due.is("the greatest set of n " + n, x.come(1L << greatest), 0);
            Due.is("the least one", x.come(1), 1);
            Due.is("all", x.come(Made.all(n)), 2);
            if (n < 6) {
                Due.is("one beyond n " + n, x.come(1L << (greatest + 1)), -1);
                Due.is("the last bit is beyond n " + n, x.come(Long.MIN_VALUE), -1);
            }
            x.write(0);
            Due.holds("it has all elements", Made.paper(x).equals("abcdef".substring(0, n)));
            Due.is("the last by numbers", x.ordered(0, greatest), greatest);
            Due.is("none behind", x.ordered(0, greatest + 1), -2);
        }
    }

    private static void sizes() {
        for (int n = 1; n <= 6; n++) {
            LeastShadows x = Made.cube(n, 1, Made.top(n));
            for (int size = 0; size <= n; size++) {
                Due.is("of none, " + size, x.profile(0, size), size == 0 ? 1 : 0);
                Due.is("of all, " + size, x.profile(1, size), size == n ? 1 : 0);
            }
        }
    }

    private static void bits() {
        LeastShadows x = Made.cube(6, 1, Long.MIN_VALUE, -1, 1L << 32);
        String[] written = {"0", "abcdef", "f"};
        int[] families = {0, 1, 3};
        for (int i = 0; i < 3; i++) {
            x.write(families[i]);
            Due.holds("family " + families[i], Made.paper(x).equals(written[i]));
        }
        Due.is("the last bit is a set", x.of(1, 2), 1);
        Due.is("all 64", x.of(2, 2), 64);
    }

    private static void numbers() {
        LeastShadows x = new LeastShadows();
        for (int i = 0; i < 8; i++) {
            Due.is("number", x.come(1 << i), i);
        }
        Due.is("no ninth", x.come(1), -3);
        for (int i = 0; i < 8; i++) {
            Due.is("each is its own", x.sets(i, 1), 1 << i);
        }
        Due.is("no number 8", x.of(8, 0), -1);
        x.drop();
        x.drop();
        Due.is("the number comes again", x.come(3), 6);
    }

    private static void figures() {
        LeastShadows x = Made.families(5);
        Due.is("KIND at first", x.of(0, 0), 0);
        Due.is("FIGURE at first", x.of(0, 1), 0);
        for (int v = 1; v <= 9; v++) {
            Due.is("FIGURE", x.set(0, 1, v), v - 1);
        }
        Due.is("10 is none", x.set(0, 1, 10), -1);
        Due.is("-1 is none", x.set(0, 1, -1), -1);
        for (int v = 1; v <= 5; v++) {
            Due.is("KIND", x.set(0, 0, v), v - 1);
        }
        Due.is("TOLD stays", x.sets(0, 1), 5);
        Due.is("least FIGURE", x.set(0, 1, 0), 9);
    }

    private static void cubeTakesFamiliesAway() {
        LeastShadows x = Made.fullOfFamilies();
        x.cube(4);
        Due.is("as large as before", x.count(0), 0);
        for (int gone = 0; gone < 8; gone++) {
            Due.is("none of its number", x.of(gone, 0), -1);
        }
        x = Made.families(1);
        x.cube(6);
        Due.is("larger", x.count(0), 0);
        Due.is("the next one is number 0", x.come(1), 0);
        x.cube(7);
        Due.is("a refused one takes none", x.count(0), 1);
    }

    private static void noBitsBeyond() {
        for (int n = 1; n <= 6; n++) {
            LeastShadows x = Made.cube(n, Made.all(n), 0, Made.top(n));
            x.set(1, 0, 1);
            x.set(2, 0, 1);
            for (int f = 0; f < 3; f++) {
                for (int what = 0; what <= 4; what++) {
                    Due.is("sets, n " + n, x.sets(f, what) & ~Made.all(n), 0);
                }
            }
            Due.is("all others of none", x.sets(1, 0), Made.all(n));
        }
        LeastShadows x = Made.grid(3, 5);
        Due.is("border of the last cell", x.border(1L << 14), 1L << 13 | 1L << 11);
        Due.is("all cells", x.firstCells(1, 15), (1L << 15) - 1);
    }

    // ---- kinds

    private static void kindFamily() {
        for (int n = 1; n <= 6; n++) {
            for (long told : new long[] {0, 1, Made.top(n), Made.all(n)}) {
                Due.is("n " + n, Made.setsByKind(n, 0, 3, told), told);
            }
        }
    }

    private static void kindOthers() {
        for (int n = 1; n <= 6; n++) {
            Due.is("of none, all, n " + n, Made.setsByKind(n, 1, 0, 0), Made.all(n));
            Due.is("of all, none, n " + n, Made.setsByKind(n, 1, 0, Made.all(n)), 0);
            Due.is("of the greatest, n " + n, Made.setsByKind(n, 1, 0, Made.top(n)), Made.all(n) ^ Made.top(n));
            Due.is("of the least, n " + n, Made.setsByKind(n, 1, 0, 1), Made.all(n) - 1);
        }
    }

    private static void kindTurned() {
        for (int n = 1; n <= 6; n++) {
            Due.is("none, n " + n, Made.setsByKind(n, 2, 0, 0), 0);
            Due.is("all, n " + n, Made.setsByKind(n, 2, 0, Made.all(n)), Made.all(n));
            for (int s = 0; s < 1 << n; s++) {
                Due.is("set " + s + ", n " + n, Made.setsByKind(n, 2, 0, 1L << s), 1L << ((1 << n) - 1 - s));
            }
        }
    }

    private static void kindLevel() {
        for (int n = 1; n <= 6; n++) {
            for (int figure = 0; figure <= 9; figure++) {
                Due.is("of all, n " + n, Made.setsByKind(n, 3, figure, Made.all(n)), Made.ofSize(n, figure));
            }
            Due.is("of none, n " + n, Made.setsByKind(n, 3, 0, 0), 0);
            Due.is("of other sizes, n " + n, Made.setsByKind(n, 3, 1, 1), 0);
        }
    }

    private static void kindBelow() {
        for (int n = 1; n <= 6; n++) {
            long upTo = 0;
            for (int figure = 0; figure <= n; figure++) {
                upTo |= Made.ofSize(n, figure);
                Due.is("of all, n " + n, Made.setsByKind(n, 4, figure, Made.all(n)), upTo);
            }
            for (int figure = n + 1; figure <= 9; figure++) {
                Due.is("beyond n, n " + n, Made.setsByKind(n, 4, figure, Made.all(n)), 0);
            }
            Due.is("of the greatest alone, n " + n, Made.setsByKind(n, 4, n, Made.top(n)), Made.all(n));
            Due.is("of the least alone, n " + n, Made.setsByKind(n, 4, 0, 1), 1);
        }
        Due.is("of no LEVEL, not even the empty set", Made.setsByKind(4, 4, 1, 1L << 3 | 1), 0);
        Due.is("parts need not be TOLD, and what is TOLD beside is none", Made.setsByKind(4, 4, 2, 1L << 12 | 1L << 2), 1 | 1L << 4 | 1L << 8 | 1L << 12);
    }

    private static void kindMirrored() {
        for (int n = 1; n <= 6; n++) {
            Due.is("none, n " + n, Made.setsByKind(n, 5, 0, 0), 0);
            Due.is("all, n " + n, Made.setsByKind(n, 5, 0, Made.all(n)), Made.all(n));
            for (int s = 0; s < 1 << n; s++) {
                int mirrored = 0;
                for (int i = 0; i < n; i++) {
                    mirrored |= (s >> i & 1) == 0 ? 1 << (n - 1 - i) : 0;
                }
                Due.is("set " + s + ", n " + n, Made.setsByKind(n, 5, 0, 1L << s), 1L << mirrored);
            }
        }
    }

    private static void shadows() {
        for (int n = 1; n <= 6; n++) {
            long below = 0;
            for (int e = 0; e < n; e++) {
                below |= 1L << ((1 << n) - 1 - (1 << e));
            }
            LeastShadows x = Made.cube(n, 0, 1, Made.top(n), Made.all(n), 1 | 2);
            Due.is("of none, n " + n, x.sets(0, 2), 0);
            Due.is("of the empty set, n " + n, x.sets(1, 2), 0);
            Due.is("of the greatest, n " + n, x.sets(2, 2), below);
            Due.is("of all, n " + n, x.sets(3, 2), Made.all(n) ^ Made.top(n));
            Due.is("of its own ones, too, n " + n, x.sets(4, 2), 1);
            Due.is("by its kind, n " + n, Made.kind(n, 2, 0, 1).sets(0, 2), below);
        }
    }

    private static void upperShadows() {
        for (int n = 1; n <= 6; n++) {
            long above = 0;
            for (int e = 0; e < n; e++) {
                above |= 1L << (1 << e);
            }
            LeastShadows x = Made.cube(n, 0, 1, Made.top(n), Made.all(n));
            Due.is("of none, n " + n, x.sets(0, 3), 0);
            Due.is("of the empty set, n " + n, x.sets(1, 3), above);
            Due.is("of the greatest, n " + n, x.sets(2, 3), 0);
            Due.is("of all, n " + n, x.sets(3, 3), Made.all(n) - 1);
        }
        Due.is("of its own ones, too", Made.families(1 | 2).sets(0, 3), 1L << 1 | 1L << 2 | 1L << 4 | 1L << 8 | 1L << 3 | 1L << 5 | 1L << 9);
    }

    private static void borders() {
        for (int n = 1; n <= 6; n++) {
            LeastShadows x = Made.cube(n, 0, Made.all(n), 1, Made.top(n), Made.all(n) - 1);
            Due.is("of none, n " + n, x.sets(0, 4), 0);
            Due.is("of all, n " + n, x.sets(1, 4), 0);
            Due.is("of the empty set: those above, n " + n, x.sets(2, 4), x.sets(2, 3));
            Due.is("of the greatest: those below, n " + n, x.sets(3, 4), x.sets(3, 2));
            Due.is("of all but the empty set, n " + n, x.sets(4, 4), 1);
        }
        Due.is("of a: above and below, none of its own", Made.families(1L << 1 | 1L << 3).sets(0, 4), 1 | 1L << 2 | 1L << 5 | 1L << 9 | 1L << 7 | 1L << 11);
    }

    private static void edges() {
        for (int n = 1; n <= 6; n++) {
            long odd = 0;
            for (int size = 1; size <= n; size += 2) {
                odd |= Made.ofSize(n, size);
            }
            LeastShadows x = Made.cube(n, 0, Made.all(n), 1, Made.top(n), odd, Made.all(n) / 3);
            long[] edges = {x.of(0, 6), x.of(1, 6), x.of(2, 6), x.of(3, 6), x.of(4, 6)};
            Due.are("none, all, the least, the greatest, each other one, n " + n, edges, 0, 0, n, n, n << (n - 1));
        }
        Due.is("two beside one another: the pair between is none", Made.families(1 | 2).of(0, 6), 6);
        Due.is("one that is none, by two edges", Made.cube(2, 1L << 1 | 1L << 2).of(0, 6), 4);
    }

    private static void antichains() {
        for (int n = 1; n <= 6; n++) {
            Due.is("one, n " + n, Made.cube(n, 1).is(0, 0), 1);
            Due.is("the least and the greatest, n " + n, Made.cube(n, 1 | Made.top(n)).is(0, 0), 0);
            Due.is("all, n " + n, Made.cube(n, Made.all(n)).is(0, 0), 0);
            for (int size = 0; size <= n; size++) {
                Due.is("all of a size, n " + n, Made.cube(n, Made.ofSize(n, size)).is(0, 0), 1);
            }
        }
        Due.is("a and bcd", Made.families(1L << 1 | 1L << 14).is(0, 0), 1);
        Due.is("a and acd, two steps apart", Made.families(1L << 1 | 1L << 13).is(0, 0), 0);
    }

    private static void intersecting() {
        for (int n = 1; n <= 6; n++) {
            Due.is("the empty set with itself, n " + n, Made.cube(n, 1).is(0, 1), 0);
            Due.is("the greatest, n " + n, Made.cube(n, Made.top(n)).is(0, 1), 1);
            Due.is("the empty set with another, n " + n, Made.cube(n, 1 | Made.top(n)).is(0, 1), 0);
            for (int e = 0; e < n; e++) {
                Due.is("one element's, n " + n, Made.cube(n, 1L << (1 << e)).is(0, 1), 1);
            }
        }
        Due.is("ab and cd", Made.families(1L << 3 | 1L << 12).is(0, 1), 0);
        Due.is("abd and cd", Made.families(1L << 11 | 1L << 12).is(0, 1), 1);
        Due.is("two by two, though not all three: ab, ac, bc", Made.families(1L << 3 | 1L << 5 | 1L << 6).is(0, 1), 1);
    }

    private static void down() {
        for (int n = 1; n <= 6; n++) {
            Due.is("all, n " + n, Made.cube(n, Made.all(n)).is(0, 2), 1);
            Due.is("the greatest alone, n " + n, Made.cube(n, Made.top(n)).is(0, 2), 0);
            if (n > 1) {
                Due.is("a size's parts but for one, n " + n, Made.cube(n, Made.all(n) ^ 1L << 1).is(0, 2), 0);
            }
        }
        Due.is("0, a, b, ab", Made.families(15).is(0, 2), 1);
        Due.is("0, a, ab: b is missing", Made.families(11).is(0, 2), 0);
    }

    private static void downTakesTheEmptySet() {
        for (int n = 1; n <= 6; n++) {
            Due.is("the empty set alone, n " + n, Made.cube(n, 1).is(0, 2), 1);
            Due.is("all but the empty set, n " + n, Made.cube(n, Made.all(n) - 1).is(0, 2), 0);
            Due.is("a alone, n " + n, Made.cube(n, 2).is(0, 2), 0);
            Due.is("0 and a, n " + n, Made.cube(n, 3).is(0, 2), 1);
        }
    }

    private static void withoutSets() {
        for (int n = 1; n <= 6; n++) {
            LeastShadows x = Made.cube(n, 0, Made.all(n));
            x.set(1, 0, 1);
            for (int what = 0; what <= 2; what++) {
                Due.is("none TOLD, n " + n + ", what " + what, x.is(0, what), 1);
                Due.is("none by its kind, n " + n + ", what " + what, x.is(1, what), 1);
            }
        }
    }

    private static void profiles() {
        for (int n = 1; n <= 6; n++) {
            LeastShadows x = Made.cube(n, Made.all(n), 0);
            for (int size = 0; size <= n; size++) {
                Due.is("of all, n " + n, x.profile(0, size), Long.bitCount(Made.ofSize(n, size)));
                Due.is("of none, n " + n, x.profile(1, size), 0);
            }
        }
    }

    // ---- promises

    private static void newObject() {
        LeastShadows x = new LeastShadows();
        Due.is("FAMILIES", x.count(0), 0);
        Due.is("number 0", x.sets(0, 0), Made.NONE);
        Due.is("none to drop", x.drop(), -5);
        for (int what = 2; what <= 7; what++) {
            Due.is("count " + what, x.count(what), 0);
        }
        Due.is("each object has its own", Made.fullOfFamilies().count(0) + new LeastShadows().count(0), 8);
    }

    private static void cubeTellsWhatWas() {
        LeastShadows x = new LeastShadows();
        int[] row = {1, 6, 6, 5, 2, 3, 4, 1};
        int was = 4;
        for (int n : row) {
            Due.is("cube(" + n + ")", x.cube(n), was);
            Due.is("n", x.count(1), n);
            was = n;
        }
        States.changes(States::rich, "cube(3)", y -> y.cube(3), "families", "changes");
    }

    private static void cubeBad() {
        for (int n : new int[] {0, 7, -1, LEAST_INT, GREATEST_INT, 8, 260}) {
            States.refused("cube(" + n + ")", x -> x.cube(n), -1);
        }
    }

    private static void come() {
        LeastShadows x = new LeastShadows();
        Due.is("of none", x.come(0), 0);
        Due.is("of all", x.come(65535), 1);
        long[] first = {x.of(0, 0), x.of(0, 1), x.sets(0, 1), x.of(1, 0), x.of(1, 1), x.sets(1, 1)};
        Due.are("as they came", first, 0, 0, 0, 0, 0, 65535);
        x.set(1, 0, 5);
        x.set(1, 1, 9);
        x.drop();
        Due.is("behind one that went", x.come(3), 1);
        Due.is("its KIND", x.of(1, 0), 0);
        Due.is("its FIGURE", x.of(1, 1), 0);
        Due.is("two of the same are two", x.come(3), 2);
        States.changes(States::rich, "come(255)", y -> y.come(255), "families", "changes");
        States.changes(States::emptied, "come(1)", y -> y.come(1), "families", "changes");
    }

    private static void comeBad() {
        for (int n = 1; n <= 5; n++) {
            LeastShadows x = Made.cube(n);
            for (long beyond : new long[] {1L << (1 << n), Long.MIN_VALUE, -1, Long.MAX_VALUE, 1L << 62, Made.all(n) + 1}) {
                Due.is("bits beyond n " + n, x.come(beyond), -1);
            }
            Due.is("none came", x.count(0), 0);
        }
        States.refused(LeastShadows::new, "come(65536)", x -> x.come(65536), -1);
        States.refused(States::rich, "come(256)", x -> x.come(256), -1);
        States.refused(States::full, "BAD ahead of FULL", x -> x.come(65536), -1);
        States.refused(States::full, "BAD ahead of FULL", x -> x.come(-1), -1);
    }

    private static void comeFull() {
        States.refused(States::full, "a ninth", x -> x.come(1), -3);
        States.refused(States::full, "a ninth of none", x -> x.come(0), -3);
        LeastShadows x = Made.fullOfFamilies();
        x.drop();
        Due.is("an eighth again", x.come(1), 7);
        Due.is("and no ninth", x.come(1), -3);
    }

    private static void drop() {
        LeastShadows x = Made.fullOfFamilies();
        for (int left = 7; left >= 0; left--) {
            Due.is("drop()", x.drop(), left);
            for (int gone = left; gone < 8; gone++) {
                Due.is("it is none", x.of(gone, 0), -1);
            }
            if (left > 0) {
                Due.is("the one ahead stays", x.sets(left - 1, 1), 1 << (left - 1));
            }
        }
        States.changes(States::rich, "drop()", LeastShadows::drop, "families", "changes");
        States.changes(States::full, "drop()", LeastShadows::drop, "families", "changes");
    }

    private static void dropNone() {
        States.refused(LeastShadows::new, "drop()", LeastShadows::drop, -5);
        LeastShadows x = Made.families(1);
        x.drop();
        Due.is("behind the last", x.drop(), -5);
        x.come(1);
        x.cube(4);
        Due.is("behind cube()", x.drop(), -5);
    }

    private static void set() {
        LeastShadows x = Made.families(1, 2);
        Due.is("KIND", x.set(1, 0, 5), 0);
        Due.is("FIGURE", x.set(1, 1, 9), 0);
        Due.is("FIGURE was", x.set(1, 1, 0), 9);
        Due.is("KIND was", x.set(1, 0, 0), 5);
        Due.is("as it is", x.set(1, 0, 0), 0);
        x.set(1, 0, 3);
        x.set(1, 1, 4);
        long[] other = {x.of(0, 0), x.of(0, 1), x.of(1, 0), x.of(1, 1)};
        Due.are("each its own", other, 0, 0, 3, 4);
        LeastShadows full = Made.fullOfFamilies();
        Due.is("the last of eight", full.set(7, 0, 1), 0);
        States.changes(States::rich, "set(0, 1, 2)", y -> y.set(0, 1, 2));
        States.changes(States::rich, "set(0, 1, 3)", y -> y.set(0, 1, 3), "families", "changes");
    }

    private static void setBad() {
        for (int family : new int[] {-1, 8, LEAST_INT, GREATEST_INT}) {
            States.refused("family " + family, x -> x.set(family, 0, 1), -1);
        }
        States.refused(LeastShadows::new, "none", x -> x.set(0, 0, 0), -1);
        States.refused(States::rich, "the number behind the last", x -> x.set(2, 0, 0), -1);
        for (int what : new int[] {-1, 2, LEAST_INT, GREATEST_INT}) {
            States.refused("what " + what, x -> x.set(0, what, 1), -1);
        }
        for (int v : new int[] {-1, 6, 9, LEAST_INT, GREATEST_INT}) {
            States.refused("KIND " + v, x -> x.set(0, 0, v), -1);
        }
        for (int v : new int[] {-1, 10, LEAST_INT, GREATEST_INT}) {
            States.refused("FIGURE " + v, x -> x.set(0, 1, v), -1);
        }
    }

    private static void sets() {
        LeastShadows x = Made.kind(3, 1, 0, 1L << 7 | 1L << 1);
        long[] sets = {x.sets(0, 0), x.sets(0, 1), x.sets(0, 2), x.sets(0, 3), x.sets(0, 4)};
        Due.are("0, b, c, ab, ac, bc of n 3", sets, 125, 130, 1 | 1 << 1 | 1 << 2 | 1 << 4, 1 << 1 | 1 << 2 | 1 << 4 | 1 << 3 | 1 << 5 | 1 << 6 | 1 << 7, 130);
        States.changesNothing("sets()", y -> y.sets(0, 0) + y.sets(0, 1) + y.sets(0, 2) + y.sets(0, 3) + y.sets(0, 4));
    }

    private static void setsVoid() {
        for (int what : new int[] {-1, 5, LEAST_INT, GREATEST_INT}) {
            States.refused("what " + what, x -> x.sets(0, what), Made.NONE);
        }
        for (int family : new int[] {-1, 8, LEAST_INT, GREATEST_INT}) {
            States.refused("family " + family, x -> x.sets(family, 0), Made.NONE);
        }
        Due.is("the number behind the last", Made.families(1).sets(1, 1), Made.NONE);
        Due.is("one that is as VOID", Made.cube(6, Long.MIN_VALUE).sets(0, 0), Made.NONE);
        Due.is("none is no VOID", Made.families(0).sets(0, 0), 0);
    }

    private static void of() {
        LeastShadows x = Made.kind(3, 1, 6, 1L << 7 | 1L << 1);
        long[] of = {x.of(0, 0), x.of(0, 1), x.of(0, 2), x.of(0, 3), x.of(0, 4), x.of(0, 5), x.of(0, 6)};
        Due.are("0, b, c, ab, ac, bc of n 3", of, 1, 6, 6, 4, 7, 2, 6);
        LeastShadows all = Made.cube(6, -1, 0);
        long[] most = {all.of(0, 2), all.of(0, 3), all.of(0, 4), all.of(0, 5), all.of(0, 6)};
        Due.are("all 64", most, 64, 63, 63, 0, 0);
        long[] none = {all.of(1, 2), all.of(1, 3), all.of(1, 4), all.of(1, 5), all.of(1, 6)};
        Due.are("none", none, 0, 0, 0, 0, 0);
        for (int what = 0; what <= 6; what++) {
            int w = what;
            States.changesNothing("of(0, " + w + ")", y -> y.of(0, w));
        }
    }

    private static void ofBad() {
        for (int what : new int[] {-1, 7, LEAST_INT, GREATEST_INT}) {
            States.refused("what " + what, x -> x.of(0, what), -1);
        }
        for (int family : new int[] {-1, 8, LEAST_INT, GREATEST_INT}) {
            States.refused("family " + family, x -> x.of(family, 2), -1);
        }
        Due.is("the number behind the last", Made.families(1).of(1, 0), -1);
    }

    private static void is() {
        LeastShadows x = Made.families(1L << 3 | 1L << 6, 1 | 1L << 4, 1L << 1);
        long[] pairs = {x.is(0, 0), x.is(0, 1), x.is(0, 2), x.is(0, 3)};
        Due.are("ab, bc", pairs, 1, 1, 0, 0);
        long[] down = {x.is(1, 0), x.is(1, 1), x.is(1, 2), x.is(1, 3)};
        Due.are("0, c", down, 0, 0, 1, 0);
        long[] rest = {x.is(2, 0), x.is(2, 1), x.is(2, 2), x.is(2, 3)};
        Due.are("a", rest, 1, 1, 0, 1);
        x.set(2, 0, 1);
        Due.is("by its kind: all but a", x.is(2, 0), 0);
        for (int what = 0; what <= 3; what++) {
            int w = what;
            States.changesNothing("is(0, " + w + ")", y -> y.is(0, w));
        }
    }

    private static void isBad() {
        for (int what : new int[] {-1, 4, LEAST_INT, GREATEST_INT}) {
            States.refused("what " + what, x -> x.is(0, what), -1);
        }
        for (int family : new int[] {-1, 8, LEAST_INT, GREATEST_INT}) {
            States.refused("family " + family, x -> x.is(family, 0), -1);
        }
        Due.is("the number behind the last", Made.families(1).is(1, 0), -1);
    }

    private static void profile() {
        LeastShadows x = Made.kind(6, 1, 0, Long.MIN_VALUE | 1);
        long[] row = {x.profile(0, 0), x.profile(0, 1), x.profile(0, 2), x.profile(0, 3), x.profile(0, 4), x.profile(0, 5), x.profile(0, 6)};
        Due.are("all but the least and the greatest", row, 0, 6, 15, 20, 15, 6, 0);
        States.changesNothing("profile(0, 1)", y -> y.profile(0, 1));
    }

    private static void profileBad() {
        for (int n = 1; n <= 6; n++) {
            LeastShadows x = Made.cube(n, 1);
            Due.is("n is a SIZE", x.profile(0, n), 0);
            Due.is("n plus 1 is none", x.profile(0, n + 1), -1);
        }
        for (int size : new int[] {-1, 7, LEAST_INT, GREATEST_INT}) {
            States.refused("size " + size, x -> x.profile(0, size), -1);
        }
        for (int family : new int[] {-1, 8, LEAST_INT, GREATEST_INT}) {
            States.refused("family " + family, x -> x.profile(family, 0), -1);
        }
        Due.is("the number behind the last", Made.families(1).profile(1, 0), -1);
    }
}
