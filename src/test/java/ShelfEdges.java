import java.util.function.Supplier;

/** Shelves and lists: the sentences of the terms, and promises 36 to 43. */
final class ShelfEdges {
    private static final int LEAST_INT = Integer.MIN_VALUE, GREATEST_INT = Integer.MAX_VALUE;
    private static final int[] NO_SHELVES = {-1, 3, LEAST_INT, GREATEST_INT};

    private ShelfEdges() { }

    static void test() {
        terms();
        shelves();
        lists();
    }

    private static void terms() {
        Sentences.of("Terms", "SHELVES 0 .. 2 are missing (at first), or hold a row of 0 .. 6 places, empty at first,", ShelfEdges::rows);
        Sentences.of("Terms", "of a SORT: 0 for any FAMILY, 1 for LEVELS and those under LEVEL, 2 for TURNED ones and those under TURNED.", ShelfEdges::sorts);
        Sentences.of("Terms", "A FAMILY is kept as it is then: its KIND, FIGURE, TOLD SETS", ShelfEdges::keptAsItIsThen);
        Sentences.of("Terms", "(its SETS are then by THE CUBE as that is when they are asked, TOLD ones beyond it left out).", ShelfEdges::byTheCubeThatIs);
        Sentences.of("Terms", "What is TOLD beyond THE CUBE is left out ahead of TURNING.", ShelfEdges::leftOutAheadOfTurning);
        Sentences.of("Terms", "What is kept is by its KIND in THE CUBE as it is when it is asked.", ShelfEdges::byItsKind);
        Sentences.of("Terms", "LISTS 0 .. 2 are missing (at first), or hold 0 .. 20 numbers of a sort: 0 ints, 1 longs:", ShelfEdges::numbers);
        Sentences.of("Terms", "-11 it is missing, -12 another sort, -13 a place outside, -14 a size below 0.", ShelfEdges::refusals);
    }

    private static void shelves() {
        Sentences.of("Promise 36", "A SHELF holds a row of n places (0 .. 6) of a SORT (0 .. 2), or is missing (sort -1: n does not matter): 1.", ShelfEdges::shelf);
        Sentences.of("Promise 36", "BAD: shelf, sort, n above 6;", ShelfEdges::shelfBad);
        Sentences.of("Promise 36", "-14.", ShelfEdges::shelfBelowZero);
        Sentences.of("Promise 37", "A FAMILY comes to place i of a SHELF: 1.", ShelfEdges::keep);
        Sentences.of("Promise 37", "BAD: shelf, family;", ShelfEdges::keepBad);
        Sentences.of("Promise 37", "-11;", ShelfEdges::keepMissing);
        Sentences.of("Promise 37", "-13;", ShelfEdges::keepOutside);
        Sentences.of("Promise 37", "-12: it may not (behind -13).", ShelfEdges::keepMayNot);
        Sentences.of("Promise 38", "SETS of the FAMILY in place i of a SHELF.", ShelfEdges::kept);
        Sentences.of("Promise 38", "VOID: no such SHELF, missing, no such place, empty.", ShelfEdges::keptVoid);
        Sentences.of("Promise 39", "A SHELF becomes a row like another one's (of its SORT, the same FAMILIES): how many places.", ShelfEdges::like);
        Sentences.of("Promise 39", "BAD: shelves (one twice, too);", ShelfEdges::likeBad);
        Sentences.of("Promise 39", "-11: the other one is missing.", ShelfEdges::likeMissing);
        Sentences.of("Promise 40", "n places of a SHELF, from i on, come to another one's (or its own) place j on, as they were (empty ones, too): n.", ShelfEdges::shift);
        Sentences.of("Promise 40", "BAD: shelves;", ShelfEdges::shiftBad);
        Sentences.of("Promise 40", "-11: either is missing;", ShelfEdges::shiftMissing);
        Sentences.of("Promise 40", "-13: n, i, j below 0, or beyond either's end;", ShelfEdges::shiftOutside);
        Sentences.of("Promise 40", "-12: a FAMILY may not come there: what stands ahead of it came.", ShelfEdges::shiftMayNot);
    }

    private static void lists() {
        Sentences.of("Promise 41", "A LIST holds n numbers (0 .. 20) of a sort, all 0, or is missing (sort -1: n does not matter): 1.", ShelfEdges::list);
        Sentences.of("Promise 41", "BAD: list, sort, n above 20;", ShelfEdges::listBad);
        Sentences.of("Promise 41", "-14.", ShelfEdges::listBelowZero);
        Sentences.of("Promise 42", "Place i of a LIST becomes v (its lowest bits, as many as it has): 1.", ShelfEdges::put);
        Sentences.of("Promise 42", "BAD;", ShelfEdges::putBad);
        Sentences.of("Promise 42", "-11;", ShelfEdges::putMissing);
        Sentences.of("Promise 42", "-13.", ShelfEdges::putOutside);
        Sentences.of("Promise 43", "Place i of a LIST.", ShelfEdges::get);
        Sentences.of("Promise 43", "VOID: no such LIST, missing, no such place.", ShelfEdges::getVoid);
    }

    /** Families told 10, 20, .. stand on shelf 0, so many as places. */
    private static LeastShadows standing(int places) {
        LeastShadows x = Made.families(10, 20, 30, 40, 50, 60);
        x.shelf(0, 0, places);
        for (int i = 0; i < places; i++) {
            x.keep(0, i, i);
        }
        return x;
    }

    // ---- terms of shelves

    private static void rows() {
        LeastShadows x = Made.families(5);
        for (int shelf = 0; shelf < 3; shelf++) {
            Due.is("missing at first", x.keep(shelf, 0, 0), -11);
            for (int places = 0; places <= 6; places++) {
                Due.is("a row of " + places, x.shelf(shelf, 0, places), 1);
                for (int i = 0; i < places; i++) {
                    Due.is("empty at first", x.kept(shelf, i), Made.NONE);
                    Due.is("a place", x.keep(shelf, i, 0), 1);
                    Due.is("it stands there", x.kept(shelf, i), 5);
                }
                Due.is("no more places than " + places, x.keep(shelf, places, 0), -13);
            }
            Due.is("seven are too many", x.shelf(shelf, 0, 7), -1);
        }
        Due.is("all are there", x.count(6), 3);
        Due.is("no shelf 3", x.shelf(3, 0, 0), -1);
    }

    private static void sorts() {
        int[][] comes = {{1, 1, 1, 1, 1, 1}, {-12, -12, -12, 1, 1, -12}, {-12, -12, 1, -12, -12, 1}};
        for (int sort = 0; sort < 3; sort++) {
            for (int kind = 0; kind < 6; kind++) {
                LeastShadows x = Made.kind(4, kind, 2, 6);
                for (int shelf = 0; shelf < 3; shelf++) {
                    x.shelf(shelf, sort, 1);
                    Due.is("kind " + kind + " on sort " + sort, x.keep(shelf, 0, 0), comes[sort][kind]);
                    Due.is("it stands there or not", x.kept(shelf, 0), comes[sort][kind] == 1 ? x.sets(0, 0) : Made.NONE);
                }
            }
        }
        LeastShadows x = Made.families(6);
        for (int[] may : new int[][] {{1, -12}, {0, 1}, {2, -12}, {0, 1}}) {
            x.shelf(0, may[0], 1);
            Due.is("a new row is of the new SORT " + may[0], x.keep(0, 0, 0), may[1]);
        }
        Due.is("no sort 3", x.shelf(0, 3, 1), -1);
        Due.is("no sort -2", x.shelf(0, -2, 1), -1);
    }

    private static void keptAsItIsThen() {
        LeastShadows x = Made.kind(4, 3, 1, 65535);
        x.shelf(0, 1, 2);
        x.keep(0, 0, 0);
        x.set(0, 1, 2);
        Due.is("its FIGURE", x.kept(0, 0), Made.ofSize(4, 1));
        x.keep(0, 1, 0);
        x.set(0, 0, 0);
        Due.is("its KIND", x.kept(0, 1), Made.ofSize(4, 2));
        x.undo();
        x.undo();
        Due.is("by an UNDONE change, too", x.kept(0, 1), Made.ofSize(4, 2));
        x.drop();
        Due.is("behind drop()", x.kept(0, 0), Made.ofSize(4, 1));
        x.come(1);
        Due.is("another one of its number", x.kept(0, 0), Made.ofSize(4, 1));
        x.image();
        x.back();
        Due.is("behind back()", x.kept(0, 0), Made.ofSize(4, 1));
        x.cube(4);
        Due.is("behind cube()", x.kept(0, 1), Made.ofSize(4, 2));
    }

    private static void byTheCubeThatIs() {
        LeastShadows x = Made.cube(6, -1, Long.MIN_VALUE | 1L << 8 | 1);
        x.shelf(0, 0, 2);
        x.keep(0, 0, 0);
        x.keep(0, 1, 1);
        for (int n = 1; n <= 6; n++) {
            x.cube(n);
            Due.is("all, n " + n, x.kept(0, 0), Made.all(n));
            Due.is("some, n " + n, x.kept(0, 1), n == 6 ? Long.MIN_VALUE | 257 : n > 3 ? 257 : 1);
        }
        x.cube(1);
        x.cube(6);
        Due.is("what was left out is there again", x.kept(0, 1), Long.MIN_VALUE | 257);
        LeastShadows none = Made.cube(3, 1 << 7);
        none.shelf(2, 0, 1);
        none.keep(2, 0, 0);
        none.cube(2);
        Due.is("all left out: none, which is not empty", none.kept(2, 0), 0);
    }

    private static void leftOutAheadOfTurning() {
        for (int n = 1; n <= 5; n++) {
            LeastShadows x = Made.cube(6, -1 & ~Made.all(n), 1 | 1L << (1 << n));
            x.set(0, 0, 2);
            x.set(1, 0, 2);
            x.shelf(0, 2, 4);
            x.keep(0, 0, 0);
            x.keep(0, 1, 1);
            x.set(0, 0, 5);
            x.set(1, 0, 5);
            x.keep(0, 2, 0);
            x.keep(0, 3, 1);
            x.cube(n);
            long[] row = {0, Made.top(n), 0, Made.top(n)};
            Due.are("TURNED and MIRRORED, n " + n, Made.row(x, 0, 4), row);
        }
        LeastShadows others = Made.cube(6, -1 & ~Made.all(3));
        others.set(0, 0, 1);
        others.shelf(0, 0, 1);
        others.keep(0, 0, 0);
        others.cube(3);
        Due.is("OTHERS: all that there are", others.kept(0, 0), 255);
    }

    private static void byItsKind() {
        LeastShadows x = Made.cube(2, 1 | 1 << 1 | 1 << 3);
        x.set(0, 1, 2);
        x.shelf(0, 0, 6);
        for (int kind = 0; kind < 6; kind++) {
            x.set(0, 0, kind);
            x.keep(0, kind, 0);
        }
        Due.are("n 2", Made.row(x, 0, 6), 11, 4, 13, 8, 15, 11);
        x.cube(3);
        Due.are("n 3", Made.row(x, 0, 6), 11, 244, 1 << 7 | 1 << 6 | 1 << 4, 8, 15, 1 << 7 | 1 << 3 | 1 << 1);
        x.cube(1);
        Due.are("n 1", Made.row(x, 0, 6), 3, 0, 3, 0, 0, 3);
    }

    // ---- shelves

    private static void shelf() {
        LeastShadows x = new LeastShadows();
        for (int shelf = 0; shelf < 3; shelf++) {
            for (int sort = 0; sort < 3; sort++) {
                Due.is("no places", x.shelf(shelf, sort, 0), 1);
                Due.is("six places", x.shelf(shelf, sort, 6), 1);
            }
            Due.is("so many are there", x.count(6), shelf + 1);
        }
        for (int n : new int[] {-1, 0, 6, 7, LEAST_INT, GREATEST_INT}) {
            Due.is("missing, n " + n, x.shelf(1, -1, n), 1);
            Due.is("two are there", x.count(6), 2);
        }
        x = standing(6);
        x.shelf(0, 0, 6);
        Due.are("a new row is empty", Made.row(x, 0, 6), Made.NONE, Made.NONE, Made.NONE, Made.NONE, Made.NONE, Made.NONE);
        x = standing(6);
        x.shelf(0, -1, 0);
        x.shelf(0, 0, 6);
        Due.is("behind a missing one, too", x.kept(0, 5), Made.NONE);
        States.changes(States::rich, "shelf(1, 0, 2)", y -> y.shelf(1, 0, 2), "shelves");
        States.changes(States::full, "shelf(2, -1, 2)", y -> y.shelf(2, -1, 2), "shelves");
    }

    private static void shelfBad() {
        for (int shelf : NO_SHELVES) {
            States.refused("shelf " + shelf, x -> x.shelf(shelf, 0, 1), -1);
            States.refused("shelf " + shelf + ", missing", x -> x.shelf(shelf, -1, 1), -1);
            States.refused("BAD ahead of -14", x -> x.shelf(shelf, 0, -1), -1);
        }
        for (int sort : new int[] {-2, 3, LEAST_INT, GREATEST_INT}) {
            States.refused("sort " + sort, x -> x.shelf(0, sort, 1), -1);
            States.refused("BAD ahead of -14", x -> x.shelf(0, sort, -1), -1);
        }
        for (int n : new int[] {7, 8, GREATEST_INT}) {
            for (int sort = 0; sort < 3; sort++) {
                int s = sort;
                States.refused("n " + n, x -> x.shelf(0, s, n), -1);
            }
        }
    }

    private static void shelfBelowZero() {
        for (int n : new int[] {-1, -14, LEAST_INT}) {
            for (int sort = 0; sort < 3; sort++) {
                int s = sort;
                States.refused("n " + n, x -> x.shelf(1, s, n), -14);
            }
        }
    }

    private static void keep() {
        LeastShadows x = Made.families(1, 2, 4, 8, 16, 32, 64, 128);
        x.shelf(2, 0, 6);
        Due.is("the first place", x.keep(2, 0, 7), 1);
        Due.is("the last place", x.keep(2, 5, 0), 1);
        Due.are("its row", Made.row(x, 2, 6), 128, Made.NONE, Made.NONE, Made.NONE, Made.NONE, 1);
        Due.is("in place of another one", x.keep(2, 0, 3), 1);
        Due.is("it stands there", x.kept(2, 0), 8);
        Due.is("one family twice", x.keep(2, 1, 3), 1);
        States.changes(States::rich, "keep(0, 0, 0)", y -> y.keep(0, 0, 0), "shelves");
    }

    private static void keepBad() {
        for (int shelf : NO_SHELVES) {
            States.refused("shelf " + shelf, x -> x.keep(shelf, 0, 0), -1);
            States.refused("shelf " + shelf + " ahead of -13", x -> x.keep(shelf, 9, 0), -1);
        }
        for (int family : new int[] {-1, 8, LEAST_INT, GREATEST_INT}) {
            for (int shelf = 0; shelf < 3; shelf++) {
                int s = shelf;
                States.refused("family " + family + " ahead of -11, -12", x -> x.keep(s, 0, family), -1);
                States.refused("family " + family + " ahead of -13", x -> x.keep(s, -1, family), -1);
            }
        }
        States.refused(LeastShadows::new, "none, ahead of -11", x -> x.keep(0, 0, 0), -1);
        States.refused(States::rich, "the number behind the last", x -> x.keep(0, 0, 2), -1);
    }

    private static void keepMissing() {
        for (int i : new int[] {0, -1, 6, LEAST_INT}) {
            States.refused(States::rich, "missing, ahead of -13 at " + i, x -> x.keep(1, i, 0), -11);
        }
        LeastShadows x = Made.families(1);
        x.shelf(0, 0, 2);
        x.shelf(0, -1, 2);
        Due.is("missing again", x.keep(0, 0, 0), -11);
    }

    private static void keepOutside() {
        for (int i : new int[] {-1, 3, 6, LEAST_INT, GREATEST_INT}) {
            States.refused(States::rich, "place " + i + " of three", x -> x.keep(0, i, 0), -13);
            States.refused(States::rich, "place " + i + " ahead of -12", x -> x.keep(0, i, 1), -13);
        }
        for (int i : new int[] {-1, 6, 7}) {
            States.refused(States::full, "place " + i + " of six", x -> x.keep(0, i, 1), -13);
            States.refused(States::full, "place " + i + " of six ahead of -12", x -> x.keep(2, i, 1), -13);
        }
        Supplier<LeastShadows> none = () -> {
            LeastShadows x = Made.families(1);
            x.shelf(0, 1, 0);
            return x;
        };
        Due.is("of no places", none.get().keep(0, 0, 0), -13);
    }

    private static void keepMayNot() {
        States.refused(States::rich, "TURNED on LEVELS", x -> x.keep(0, 0, 1), -12);
        States.refused(States::rich, "where another one stands", x -> x.keep(0, 1, 1), -12);
        for (int i = 0; i < 6; i++) {
            int place = i;
            States.refused(States::full, "place " + i, x -> x.keep(1, place, 1), -12);
            States.refused(States::full, "place " + i, x -> x.keep(2, place, 1), -12);
        }
        LeastShadows x = Made.kind(4, 3, 0, 1);
        x.shelf(0, 1, 1);
        Due.is("it may", x.keep(0, 0, 0), 1);
        x.set(0, 0, 2);
        Due.is("it may no more by its KIND of now", x.keep(0, 0, 0), -12);
        Due.is("what stood there stays", x.kept(0, 0), 1);
    }

    private static void kept() {
        LeastShadows x = standing(6);
        Due.are("its row", Made.row(x, 0, 6), 10, 20, 30, 40, 50, 60);
        LeastShadows none = Made.families(0);
        none.shelf(0, 0, 1);
        none.keep(0, 0, 0);
        Due.is("a FAMILY without SETS is not empty", none.kept(0, 0), 0);
        States.changesNothing("kept(0, 1)", y -> y.kept(0, 1));
    }

    private static void keptVoid() {
        for (int shelf : NO_SHELVES) {
            States.refused("no shelf " + shelf, x -> x.kept(shelf, 0), Made.NONE);
        }
        for (int i : new int[] {-1, 6, LEAST_INT, GREATEST_INT}) {
            States.refused("no place " + i, x -> x.kept(0, i), Made.NONE);
        }
        LeastShadows x = standing(2);
        long[] row = {x.kept(0, 1), x.kept(0, 2), x.kept(1, 0)};
        Due.are("the last, none behind, missing", row, 20, Made.NONE, Made.NONE);
        x = standing(6);
        x.shelf(1, 0, 2);
        x.like(0, 1);
        Due.are("none behind a shorter row", Made.row(x, 0, 6), Made.NONE, Made.NONE, Made.NONE, Made.NONE, Made.NONE, Made.NONE);
        x = standing(6);
        x.shelf(0, -1, 0);
        Due.are("missing again", Made.row(x, 0, 6), Made.NONE, Made.NONE, Made.NONE, Made.NONE, Made.NONE, Made.NONE);
        x.shelf(0, 0, 1);
        Due.is("empty", x.kept(0, 0), Made.NONE);
    }

    private static void like() {
        for (int places = 0; places <= 6; places++) {
            LeastShadows x = standing(places);
            x.shelf(1, 2, 3);
            Due.is("how many places", x.like(1, 0), places);
            Due.is("so many", x.keep(1, places, 0), -13);
            for (int i = 0; i < places; i++) {
                Due.is("the same FAMILIES", x.kept(1, i), 10 * i + 10);
            }
            Due.is("the other one stays", x.kept(0, 0), places > 0 ? 10 : Made.NONE);
            Due.is("of its SORT: any may come", places > 0 ? x.keep(1, 0, 5) : 1, 1);
        }
        LeastShadows x = Made.kind(4, 3, 1, 65535);
        x.shelf(0, 1, 2);
        x.keep(0, 1, 0);
        Due.is("a missing one is there", x.like(2, 0), 2);
        Due.are("an empty place, too", Made.row(x, 2, 2), Made.NONE, Made.ofSize(4, 1));
        x.set(0, 0, 0);
        Due.is("of its SORT", x.keep(2, 0, 0), -12);
        x.set(0, 0, 4);
        x.keep(2, 1, 0);
        Due.is("each has its own row", x.kept(0, 1), Made.ofSize(4, 1));
        x.shelf(0, -1, 0);
        Due.is("it stays when the other one is missing", x.kept(2, 1), Made.ofSize(4, 1) | 1);
        States.changes(States::rich, "like(1, 0)", y -> y.like(1, 0), "shelves");
    }

    private static void likeBad() {
        for (int shelf : NO_SHELVES) {
            States.refused("shelf " + shelf, x -> x.like(shelf, 0), -1);
            States.refused("other " + shelf, x -> x.like(0, shelf), -1);
            States.refused("shelf " + shelf + " ahead of -11", x -> x.like(shelf, 1), -1);
        }
        for (int shelf = 0; shelf < 3; shelf++) {
            int s = shelf;
            States.refused("one twice, missing or not: " + s, x -> x.like(s, s), -1);
        }
    }

    private static void likeMissing() {
        States.refused(States::rich, "the other one is missing", x -> x.like(0, 1), -11);
        for (int shelf = 1; shelf < 3; shelf++) {
            int s = shelf;
            States.refused(LeastShadows::new, "both are missing", x -> x.like(0, s), -11);
        }
    }

    private static void shift() {
        LeastShadows x = standing(6);
        x.shelf(1, 0, 6);
        Due.is("all", x.shift(0, 0, 1, 0, 6), 6);
        Due.are("came", Made.row(x, 1, 6), 10, 20, 30, 40, 50, 60);
        Due.is("none", x.shift(0, 0, 1, 0, 0), 0);
        Due.is("one, from the end to the start", x.shift(0, 5, 1, 0, 1), 1);
        Due.are("came alone", Made.row(x, 1, 6), 60, 20, 30, 40, 50, 60);
        x.shelf(2, 0, 2);
        Due.is("empty ones, too", x.shift(2, 0, 1, 4, 2), 2);
        Due.are("came", Made.row(x, 1, 6), 60, 20, 30, 40, Made.NONE, Made.NONE);
        Due.are("the first one stays", Made.row(x, 0, 6), 10, 20, 30, 40, 50, 60);
        ownShift(0, 1, 5, 10, 10, 20, 30, 40, 50);
        ownShift(1, 0, 5, 20, 30, 40, 50, 60, 60);
        ownShift(0, 3, 3, 10, 20, 30, 10, 20, 30);
        ownShift(2, 2, 3, 10, 20, 30, 40, 50, 60);
        ownShift(0, 0, 6, 10, 20, 30, 40, 50, 60);
        ownShift(5, 0, 1, 60, 20, 30, 40, 50, 60);
        States.changes(States::rich, "shift(0, 1, 2, 0, 1)", y -> y.shift(0, 1, 2, 0, 1), "shelves");
    }

    private static void ownShift(int i, int j, int n, long... row) {
        LeastShadows x = standing(6);
        Due.is("its own, from " + i + " to " + j, x.shift(0, i, 0, j, n), n);
        Due.are("as they were, from " + i + " to " + j, Made.row(x, 0, 6), row);
    }

    private static void shiftBad() {
        for (int shelf : NO_SHELVES) {
            States.refused("shelf " + shelf, x -> x.shift(shelf, 0, 0, 0, 0), -1);
            States.refused("other " + shelf, x -> x.shift(0, 0, shelf, 0, 0), -1);
            States.refused("both " + shelf, x -> x.shift(shelf, 0, shelf, 0, 0), -1);
            States.refused("ahead of -11", x -> x.shift(1, 0, shelf, 0, 0), -1);
            States.refused("ahead of -13", x -> x.shift(shelf, -1, 0, 0, 9), -1);
        }
    }

    private static void shiftMissing() {
        States.refused(States::rich, "the one", x -> x.shift(1, 0, 0, 0, 1), -11);
        States.refused(States::rich, "the other", x -> x.shift(0, 0, 1, 0, 1), -11);
        States.refused(States::rich, "its own", x -> x.shift(1, 0, 1, 0, 0), -11);
        States.refused(States::rich, "ahead of -13", x -> x.shift(0, -1, 1, 0, 9), -11);
        States.refused(States::rich, "ahead of -13", x -> x.shift(1, -1, 0, 0, -9), -11);
        States.refused(LeastShadows::new, "both", x -> x.shift(0, 0, 2, 0, 0), -11);
    }

    private static void shiftOutside() {
        int[][] outside = {{-1, 0, 1}, {0, -1, 1}, {0, 0, -1}, {3, 0, 1}, {0, 2, 1}, {0, 0, 3}, {1, 0, 3}, {0, 1, 2}, {4, 0, 0},
            {0, 3, 0}, {LEAST_INT, 0, 0}, {0, LEAST_INT, 0}, {0, 0, LEAST_INT}, {GREATEST_INT, 0, 1}, {0, GREATEST_INT, 1},
            {0, 0, GREATEST_INT}, {GREATEST_INT, GREATEST_INT, GREATEST_INT}, {1, 1, GREATEST_INT}, {-1, -1, 0}};
        for (int[] o : outside) {
            States.refused(States::rich, "i " + o[0] + ", j " + o[1] + ", n " + o[2], x -> x.shift(0, o[0], 2, o[1], o[2]), -13);
        }
        for (int[] o : new int[][] {{0, 1, 6}, {1, 0, 6}, {6, 0, 1}, {0, 6, 1}, {0, 0, 7}}) {
            States.refused(States::full, "ahead of -12: " + o[0] + ", " + o[1] + ", " + o[2], x -> x.shift(0, o[0], 1, o[1], o[2]), -13);
        }
        LeastShadows x = standing(3);
        x.shelf(1, 0, 2);
        Due.is("as far as the ends", x.shift(0, 1, 1, 0, 2), 2);
        Due.is("the last to the last", x.shift(0, 2, 1, 1, 1), 1);
        Due.is("none, at the ends", x.shift(0, 3, 1, 2, 0), 0);
        Due.is("none, of its own end", x.shift(1, 2, 1, 2, 0), 0);
        x.shelf(2, 0, 0);
        Due.is("none of none", x.shift(2, 0, 2, 0, 0), 0);
        Due.is("one of none", x.shift(2, 0, 0, 0, 1), -13);
    }

    /** LEVEL, empty, TURNED, LEVEL stand on shelf 0; shelf 1 is for LEVELS. */
    private static LeastShadows mixed() {
        LeastShadows x = Made.families(65535);
        x.shelf(0, 0, 4);
        x.set(0, 0, 3);
        x.keep(0, 0, 0);
        x.set(0, 1, 1);
        x.keep(0, 3, 0);
        x.shelf(1, 1, 5);
        for (int i = 0; i < 5; i++) {
            x.keep(1, i, 0);
        }
        x.set(0, 0, 2);
        x.keep(0, 2, 0);
        return x;
    }

    private static void shiftMayNot() {
        long one = Made.ofSize(4, 1);
        LeastShadows x = mixed();
        Due.is("the third may not", x.shift(0, 0, 1, 1, 4), -12);
        Due.are("what stands ahead of it came, it and what is behind did not", Made.row(x, 1, 5), one, 1, Made.NONE, one, one);
        Due.are("the first one stays", Made.row(x, 0, 4), 1, Made.NONE, 65535, one);
        x = mixed();
        Due.is("the first may not", x.shift(0, 2, 1, 0, 2), -12);
        Due.are("none came", Made.row(x, 1, 5), one, one, one, one, one);
        x = mixed();
        Due.is("the last may not", x.shift(0, 1, 1, 4, 1), 1);
        Due.is("an empty one may", x.kept(1, 4), Made.NONE);
        Due.is("up to the one that may not", x.shift(0, 0, 1, 0, 2), 2);
        Due.is("its own may", x.shift(0, 2, 0, 0, 2), 2);
        Due.is("LEVELS to any", x.shift(1, 2, 0, 0, 1), 1);
        x.shelf(2, 2, 4);
        Due.is("LEVELS to TURNED ones", x.shift(1, 3, 2, 0, 1), -12);
        Due.is("empty ones of LEVELS to TURNED ones", x.shift(1, 4, 2, 0, 1), 1);
        States.changes(States::rich, "shift(2, 0, 0, 0, 2) by the first", y -> y.shift(2, 0, 0, 0, 2));
    }

    // ---- lists

    private static void numbers() {
        LeastShadows x = new LeastShadows();
        for (int list = 0; list < 3; list++) {
            Due.is("missing at first", x.put(list, 0, 1), -11);
            for (int many = 0; many <= 20; many++) {
                Due.is("so many", x.list(list, many % 2, many), 1);
                Due.is("the last", x.get(list, many - 1), many > 0 ? 0 : Made.NONE);
                Due.is("none behind", x.get(list, many), Made.NONE);
            }
            Due.is("21 are too many", x.list(list, 0, 21), -1);
        }
        Due.is("all are there", x.count(7), 3);
        for (long v : new long[] {0, 1, -1, GREATEST_INT, LEAST_INT, 1L << 31, 1L << 32, Long.MAX_VALUE, Long.MIN_VALUE + 1}) {
            x.list(0, 0, 1);
            x.list(1, 1, 1);
            x.put(0, 0, v);
            x.put(1, 0, v);
            Due.is("ints", x.get(0, 0), (int) v);
            Due.is("longs", x.get(1, 0), v);
            x.list(0, 1, 1);
            x.list(1, 0, 1);
            x.put(0, 0, v);
            x.put(1, 0, v);
            Due.is("longs in place of ints", x.get(0, 0), v);
            Due.is("ints in place of longs", x.get(1, 0), (int) v);
        }
    }

    private static void refusals() {
        LeastShadows x = Made.families(1);
        Due.is("a shelf is missing", x.keep(0, 0, 0), -11);
        Due.is("a list is missing", x.put(0, 0, 1), -11);
        x.shelf(0, 1, 1);
        x.list(0, 0, 1);
        Due.is("another sort", x.keep(0, 0, 0), -12);
        Due.is("a place of a shelf outside", x.keep(0, 1, 0), -13);
        Due.is("a place of a list outside", x.put(0, 1, 1), -13);
        Due.is("a shelf's size below 0", x.shelf(0, 0, -1), -14);
        Due.is("a list's size below 0", x.list(0, 0, -1), -14);
    }

    private static void list() {
        LeastShadows x = new LeastShadows();
        for (int list = 0; list < 3; list++) {
            for (int sort = 0; sort < 2; sort++) {
                Due.is("none", x.list(list, sort, 0), 1);
                Due.is("20", x.list(list, sort, 20), 1);
                x.put(list, 0, 9);
                x.put(list, 19, 9);
                Due.is("anew", x.list(list, sort, 20), 1);
                Due.is("all 0", x.get(list, 0) + x.get(list, 19), 0);
            }
        }
        for (int n : new int[] {-1, 0, 20, 21, LEAST_INT, GREATEST_INT}) {
            Due.is("missing, n " + n, x.list(1, -1, n), 1);
            Due.is("two are there", x.count(7), 2);
        }
        x.put(2, 3, 7);
        x.list(2, -1, 0);
        x.list(2, 1, 5);
        Due.is("all 0 behind a missing one", x.get(2, 3), 0);
        States.changes(States::rich, "list(2, 0, 3)", y -> y.list(2, 0, 3), "lists");
        States.changes(States::full, "list(0, -1, 3)", y -> y.list(0, -1, 3), "lists");
    }

    private static void listBad() {
        for (int list : NO_SHELVES) {
            States.refused("list " + list, x -> x.list(list, 0, 1), -1);
            States.refused("list " + list + ", missing", x -> x.list(list, -1, 1), -1);
            States.refused("BAD ahead of -14", x -> x.list(list, 0, -1), -1);
        }
        for (int sort : new int[] {-2, 2, LEAST_INT, GREATEST_INT}) {
            States.refused("sort " + sort, x -> x.list(0, sort, 1), -1);
            States.refused("BAD ahead of -14", x -> x.list(0, sort, -1), -1);
        }
        for (int n : new int[] {21, 22, GREATEST_INT}) {
            States.refused("n " + n, x -> x.list(0, 0, n), -1);
            States.refused("n " + n, x -> x.list(0, 1, n), -1);
        }
    }

    private static void listBelowZero() {
        for (int n : new int[] {-1, -14, LEAST_INT}) {
            States.refused("n " + n, x -> x.list(1, 0, n), -14);
            States.refused("n " + n, x -> x.list(1, 1, n), -14);
        }
    }

    private static void put() {
        LeastShadows x = new LeastShadows();
        x.list(0, 0, 20);
        x.list(2, 1, 20);
        for (int i = 0; i < 20; i++) {
            Due.is("an int", x.put(0, i, i + (7L << 32)), 1);
            Due.is("a long", x.put(2, i, i + (7L << 32)), 1);
        }
        for (int i = 0; i < 20; i++) {
            Due.is("its lowest 32 bits", x.get(0, i), i);
            Due.is("its 64 bits", x.get(2, i), i + (7L << 32));
        }
        x.put(0, 0, 0xFFFFFFFFL);
        Due.is("32 bits are -1", x.get(0, 0), -1);
        x.put(0, 0, 0x80000000L);
        Due.is("the sign's bit is the least int", x.get(0, 0), LEAST_INT);
        x.put(0, 0, Long.MIN_VALUE);
        Due.is("the lowest of the least long", x.get(0, 0), 0);
        States.changes(States::rich, "put(1, 0, 3)", y -> y.put(1, 0, 3) + y.put(1, 1, 3), "lists");
    }

    private static void putBad() {
        for (int list : NO_SHELVES) {
            States.refused("list " + list, x -> x.put(list, 0, 1), -1);
            States.refused("ahead of -13", x -> x.put(list, -1, 1), -1);
        }
    }

    private static void putMissing() {
        for (int i : new int[] {0, -1, 20, LEAST_INT, GREATEST_INT}) {
            States.refused(States::rich, "ahead of -13 at " + i, x -> x.put(2, i, 1), -11);
            States.refused(LeastShadows::new, "a new object's, at " + i, x -> x.put(0, i, 1), -11);
        }
        LeastShadows x = new LeastShadows();
        x.list(0, 0, 2);
        x.list(0, -1, 2);
        Due.is("missing again", x.put(0, 0, 1), -11);
    }

    private static void putOutside() {
        for (int i : new int[] {-1, 2, 20, LEAST_INT, GREATEST_INT}) {
            States.refused(States::rich, "place " + i + " of two", x -> x.put(0, i, 1), -13);
        }
        for (int i : new int[] {-1, 20, 21}) {
            States.refused(States::full, "place " + i + " of 20", x -> x.put(1, i, 1), -13);
        }
        States.refused(States::emptied, "of none", x -> x.put(0, 0, 1), -13);
    }

    private static void get() {
        LeastShadows x = new LeastShadows();
        x.list(0, 1, 20);
        x.put(0, 0, Long.MAX_VALUE);
        x.put(0, 19, -1);
        long[] ends = {x.get(0, 0), x.get(0, 1), x.get(0, 19), x.get(0, 20)};
        Due.are("ends", ends, Long.MAX_VALUE, 0, -1, Made.NONE);
        x.put(0, 0, Long.MIN_VALUE);
        Due.is("one that is as VOID", x.get(0, 0), Made.NONE);
        States.changesNothing("get(0, 1)", y -> y.get(0, 1));
    }

    private static void getVoid() {
        for (int list : NO_SHELVES) {
            States.refused("no list " + list, x -> x.get(list, 0), Made.NONE);
        }
        for (int i : new int[] {-1, 20, LEAST_INT, GREATEST_INT}) {
            States.refused("no place " + i, x -> x.get(0, i), Made.NONE);
        }
        States.refused(States::rich, "missing", x -> x.get(2, 0), Made.NONE);
        States.refused(States::rich, "behind two", x -> x.get(0, 2), Made.NONE);
        LeastShadows x = new LeastShadows();
        x.list(0, 0, 20);
        x.list(0, 0, 3);
        for (int i = 0; i < 20; i++) {
            Due.is("behind a shorter row", x.get(0, i), i < 3 ? 0 : Made.NONE);
            Due.is("nor is it put there", x.put(0, i, 0), i < 3 ? 1 : -13);
        }
        x.list(0, -1, 3);
        for (int i = 0; i < 20; i++) {
            Due.is("missing again", x.get(0, i), Made.NONE);
        }
    }
}
