import java.util.ArrayList;
import java.util.Comparator;
import java.util.List;

/** The grid: the sentences of the terms, and promises 21 to 26. */
final class GridEdges {
    private static final int LEAST_INT = Integer.MIN_VALUE, GREATEST_INT = Integer.MAX_VALUE;
    private static final int[][] SMALL = {{1, 1}, {1, 8}, {8, 1}, {8, 2}, {2, 8}, {4, 4}, {3, 5}, {5, 3}, {2, 2}};

    private GridEdges() { }

    static void test() {
        Sentences.of("Terms", "THE GRID has width W and height H (1 .. 8 each; 4 and 4 at first);", GridEdges::sides);
        Sentences.of("Terms", "CELLS 0 .. W times H less 1: x plus W times y.", GridEdges::cellsOfAGrid);
        Sentences.of("Terms", "Sets of CELLS are longs likewise.", GridEdges::bits);
        Sentences.of("Terms", "BORDER, EDGES on THE GRID: of CELLS beside one another (up, down, left, right).", GridEdges::cellsBeside);
        Sentences.of("Terms", "ORDERS of CELLS: 0 by numbers.", () -> inOrder(0));
        Sentences.of("Terms", "1 by x plus y, of like ones by x.", () -> inOrder(1));
        Sentences.of("Terms", "2 by the greater of x and y, of like ones by numbers.", () -> inOrder(2));
        Sentences.of("Terms", "LEAST of m CELLS (W times H 16 at most) likewise (what 0, 1).", GridEdges::leastOfCells);
        Sentences.of("Terms", "THE GRID is in no CHANGE and not in THE IMAGE.", GridEdges::inNoChange);
        promises();
    }

    private static void promises() {
        Sentences.of("Promise 21", "THE GRID becomes one of W and H: 10 times the width it had, plus its height.", GridEdges::grid);
        Sentences.of("Promise 21", "BAD.", GridEdges::gridBad);
        Sentences.of("Promise 22", "Of CELLS: how many BORDER ones (what 0), EDGES (1).", GridEdges::cells);
        Sentences.of("Promise 22", "BAD: bits beyond THE GRID's CELLS, what.", GridEdges::cellsBad);
        Sentences.of("Promise 23", "BORDER CELLS of CELLS.", GridEdges::border);
        Sentences.of("Promise 23", "VOID: bits beyond", GridEdges::borderVoid);
        Sentences.of("Promise 23", "(a VOID told as CELLS is one of 64, if there are so many).", GridEdges::voidAsACell);
        Sentences.of("Promise 24", "The first m CELLS by an ORDER (0 .. 2).", GridEdges::firstCells);
        Sentences.of("Promise 24", "VOID: order, m.", GridEdges::firstCellsVoid);
        Sentences.of("Promise 25", "LEAST of m CELLS: so many (what 0, 1).", GridEdges::leastCells);
        Sentences.of("Promise 25", "BAD: what, m;", GridEdges::leastCellsBad);
        Sentences.of("Promise 25", "STATE: more than 16 CELLS.", GridEdges::leastCellsState);
        Sentences.of("Promise 26", "MEETS by an ORDER of CELLS, m, what 0, 1.", GridEdges::meetsCells);
        Sentences.of("Promise 26", "BAD: order, what, m;", GridEdges::meetsCellsBad);
        Sentences.of("Promise 26", "STATE: more than 16 CELLS.", GridEdges::meetsCellsState);
    }

    // ---- the plain way

    private static long all(int w, int h) {
        return w * h == 64 ? -1 : (1L << w * h) - 1;
    }

    private static long beside(int w, int h, int x, int y) {
        long beside = x > 0 ? 1L << (x - 1 + w * y) : 0;
        beside |= x < w - 1 ? 1L << (x + 1 + w * y) : 0;
        beside |= y > 0 ? 1L << (x + w * (y - 1)) : 0;
        beside |= y < h - 1 ? 1L << (x + w * (y + 1)) : 0;
        return beside;
    }

    private static long borderOf(int w, int h, long cells) {
        long border = 0;
        for (int c = 0; c < w * h; c++) {
            border |= (cells >>> c & 1) != 0 ? beside(w, h, c % w, c / w) : 0;
        }
        return border & ~cells;
    }

    private static int edgesOf(int w, int h, long cells) {
        int edges = 0;
        for (int c = 0; c < w * h; c++) {
            edges += (cells >>> c & 1) != 0 ? Long.bitCount(beside(w, h, c % w, c / w) & ~cells) : 0;
        }
        return edges;
    }

    private static List<Integer> sorted(int w, int h, int order) {
        List<Integer> cells = new ArrayList<>();
        for (int c = 0; c < w * h; c++) {
            cells.add(c);
        }
        Comparator<Integer> byNumber = Comparator.naturalOrder();
        Comparator<Integer> diagonals = Comparator.<Integer>comparingInt(c -> c % w + c / w).thenComparingInt(c -> c % w);
        Comparator<Integer> squares = Comparator.<Integer>comparingInt(c -> Math.max(c % w, c / w)).thenComparing(byNumber);
        cells.sort(order == 0 ? byNumber : order == 1 ? diagonals : squares);
        return cells;
    }

    private static long[][] leastOf(int w, int h, int what) {
        return OrderEdges.leastOf(sorted(w, h, 0), cells -> what == 0 ? Long.bitCount(borderOf(w, h, cells)) : edgesOf(w, h, cells));
    }

    // ---- terms

    private static void sides() {
        LeastShadows x = new LeastShadows();
        int was = 44;
        for (int w = 1; w <= 8; w++) {
            for (int h = 1; h <= 8; h++) {
                Due.is("grid " + w + ", " + h, x.grid(w, h), was);
                was = 10 * w + h;
            }
        }
        Due.is("the last one", x.grid(1, 1), 88);
    }

    private static void cellsOfAGrid() {
        for (int w = 1; w <= 8; w++) {
            for (int h = 1; h <= 8; h++) {
                LeastShadows x = Made.grid(w, h);
                Due.is("all", x.firstCells(0, w * h), all(w, h));
                Due.is("no more", x.firstCells(0, w * h + 1), Made.NONE);
                Due.is("the last", x.cells(1L << (w * h - 1), 0) < 0 ? 1 : 0, 0);
                if (w * h < 64) {
                    Due.is("one beyond", x.cells(1L << w * h, 0), -1);
                }
                for (int y = 0; y < h; y++) {
                    for (int i = 0; i < w; i++) {
                        Due.is("beside " + i + ", " + y + " of " + w + ", " + h, x.border(1L << (i + w * y)), beside(w, h, i, y));
                    }
                }
            }
        }
    }

    private static void bits() {
        LeastShadows x = Made.grid(8, 8);
        Due.is("cell 0", x.border(1), 1L << 1 | 1L << 8);
        Due.is("cell 31", x.border(1L << 31), 1L << 30 | 1L << 23 | 1L << 39);
        Due.is("cell 32", x.border(1L << 32), 1L << 33 | 1L << 24 | 1L << 40);
        Due.is("cell 63", x.border(1L << 63), 1L << 62 | 1L << 55);
        Due.is("its edges", x.cells(1L << 63, 1), 2);
        Due.is("all but cell 63", x.border(Long.MAX_VALUE), Long.MIN_VALUE);
        Due.is("all but cell 0", x.border(-2), 1);
    }

    private static void cellsBeside() {
        long some = 0x5DEECE66DL;
        for (int w = 1; w <= 8; w++) {
            for (int h = 1; h <= 8; h++) {
                LeastShadows x = Made.grid(w, h);
                for (int turn = 0; turn < 12; turn++) {
                    some = some * 6364136223846793005L + 1442695040888963407L;
                    long cells = (turn == 0 ? 0 : turn == 1 ? -1 : turn % 2 == 0 ? some : some & some >>> 17) & all(w, h);
                    String of = "cells " + cells + " of " + w + ", " + h;
                    Due.is("border of " + of, x.border(cells), borderOf(w, h, cells));
                    Due.is("how many", x.cells(cells, 0), Long.bitCount(borderOf(w, h, cells)));
                    Due.is("edges of " + of, x.cells(cells, 1), edgesOf(w, h, cells));
                }
            }
        }
    }

    private static void inOrder(int order) {
        for (int w = 1; w <= 8; w++) {
            for (int h = 1; h <= 8; h++) {
                LeastShadows x = Made.grid(w, h);
                List<Integer> sorted = sorted(w, h, order);
                long first = 0;
                for (int m = 0; m <= w * h; m++) {
                    Due.is("first " + m + " of " + w + ", " + h, x.firstCells(order, m), first);
                    first |= m < w * h ? 1L << sorted.get(m) : 0;
                }
            }
        }
    }

    private static void leastOfCells() {
        for (int[] side : SMALL) {
            LeastShadows x = Made.grid(side[0], side[1]);
            for (int what = 0; what <= 1; what++) {
                long[][] least = leastOf(side[0], side[1], what);
                for (int m = 0; m < least.length; m++) {
                    Due.is("m " + m + ", what " + what + " of " + side[0] + ", " + side[1], x.leastCells(what, m), least[m][0]);
                }
            }
        }
    }

    private static void inNoChange() {
        States.changes(States::rich, "grid(5, 6)", x -> x.grid(5, 6), "grid");
        States.changes(States::full, "grid(1, 1)", x -> x.grid(1, 1), "grid");
        LeastShadows x = Made.families(1);
        x.set(0, 1, 1);
        x.image();
        x.grid(2, 3);
        Due.is("ALIKE by another grid", x.alike(), 1);
        x.undo();
        Due.is("an UNDONE change leaves it", x.grid(5, 5), 23);
        x.redo();
        Due.is("one DONE AGAIN leaves it", x.grid(6, 7), 55);
        x.back();
        Due.is("back() leaves it", x.grid(1, 1), 67);
        x.cube(2);
        Due.is("cube() leaves it", x.grid(1, 1), 11);
    }

    // ---- promises

    private static void grid() {
        LeastShadows x = new LeastShadows();
        long[] row = {x.grid(1, 1), x.grid(8, 8), x.grid(8, 1), x.grid(1, 8), x.grid(1, 8), x.grid(4, 4)};
        Due.are("what was", row, 44, 11, 88, 81, 18, 18);
    }

    private static void gridBad() {
        for (int side : new int[] {0, 9, -1, LEAST_INT, GREATEST_INT}) {
            States.refused("W " + side, x -> x.grid(side, 4), -1);
            States.refused("H " + side, x -> x.grid(4, side), -1);
            States.refused("both " + side, x -> x.grid(side, side), -1);
        }
    }

    private static void cells() {
        LeastShadows x = new LeastShadows();
        long[] some = {x.cells(0, 0), x.cells(0, 1), x.cells(65535, 0), x.cells(65535, 1), x.cells(1 << 5, 0), x.cells(1 << 5, 1), x.cells(0x0660, 0), x.cells(0x0660, 1)};
        Due.are("none, all, one in the middle, four there", some, 0, 0, 0, 0, 4, 4, 8, 8);
        Due.is("edges that share a border cell are two", x.cells(1 | 1 << 5, 1), 6);
        Due.is("the border cells they share are one each", x.cells(1 | 1 << 5, 0), 4);
        States.changesNothing("cells(1, 1)", y -> y.cells(1, 1));
    }

    private static void cellsBad() {
        for (int what : new int[] {-1, 2, LEAST_INT, GREATEST_INT}) {
            States.refused("what " + what, x -> x.cells(1, what), -1);
            States.refused("what " + what + ", of none", x -> x.cells(0, what), -1);
        }
        for (int w = 1; w <= 8; w++) {
            for (int h = 1; h <= 8; h++) {
                LeastShadows x = Made.grid(w, h);
                for (long beyond : new long[] {all(w, h) + 1, Long.MIN_VALUE, -1, Long.MIN_VALUE | 1}) {
                    if (w * h < 64) {
                        Due.is("beyond " + w + ", " + h, x.cells(beyond, 0), -1);
                    }
                }
            }
        }
        States.refused(States::rich, "a bit beyond", x -> x.cells(64, 1), -1);
    }

    private static void border() {
        LeastShadows x = Made.grid(3, 2);
        long[] some = {x.border(0), x.border(63), x.border(1), x.border(4), x.border(8), x.border(5)};
        Due.are("none, all, cells 0, 2, 3, 0 and 2", some, 0, 0, 10, 34, 17, 42);
        States.changesNothing("border(1)", y -> y.border(1));
    }

    private static void borderVoid() {
        for (int w = 1; w <= 8; w++) {
            for (int h = 1; h <= 8; h++) {
                LeastShadows x = Made.grid(w, h);
                for (long beyond : new long[] {all(w, h) + 1, Long.MIN_VALUE, -1}) {
                    if (w * h < 64) {
                        Due.is("beyond " + w + ", " + h, x.border(beyond), Made.NONE);
                    }
                }
            }
        }
        States.refused(States::rich, "a bit beyond", x -> x.border(64), Made.NONE);
        Due.is("of one cell, no border is no VOID", Made.grid(1, 1).border(1), 0);
    }

    private static void voidAsACell() {
        LeastShadows x = Made.grid(8, 8);
        Due.is("the last of 64", x.border(LeastShadows.VOID), 1L << 62 | 1L << 55);
        Due.is("by cells(), too", x.cells(LeastShadows.VOID, 0), 2);
        Due.is("with all others", x.border(-1), 0);
        x.grid(8, 7);
        Due.is("not among 56", x.border(LeastShadows.VOID), Made.NONE);
        Due.is("nor by cells()", x.cells(LeastShadows.VOID, 0), -1);
        x.grid(7, 8);
        Due.is("nor of 7, 8", x.border(LeastShadows.VOID), Made.NONE);
    }

    private static void firstCells() {
        LeastShadows x = Made.grid(3, 2);
        for (int order = 0; order <= 2; order++) {
            Due.is("none", x.firstCells(order, 0), 0);
            Due.is("one", x.firstCells(order, 1), 1);
            Due.is("all", x.firstCells(order, 6), 63);
        }
        Due.is("two by numbers", x.firstCells(0, 2), 3);
        Due.is("two by x plus y: 0, then 3 as its x is less", x.firstCells(1, 2), 9);
        Due.is("four by the greater: 0, 1, 3, 4", x.firstCells(2, 4), 27);
        States.changesNothing("firstCells(1, 3)", y -> y.firstCells(1, 3));
    }

    private static void firstCellsVoid() {
        for (int order : new int[] {-1, 3, LEAST_INT, GREATEST_INT}) {
            States.refused("order " + order, x -> x.firstCells(order, 1), Made.NONE);
        }
        for (int m : new int[] {-1, 65, LEAST_INT, GREATEST_INT}) {
            States.refused("m " + m, x -> x.firstCells(0, m), Made.NONE);
        }
        Due.is("17 of 16", new LeastShadows().firstCells(2, 17), Made.NONE);
        Due.is("2 of 1", Made.grid(1, 1).firstCells(1, 2), Made.NONE);
    }

    private static void leastCells() {
        LeastShadows x = new LeastShadows();
        for (int what = 0; what <= 1; what++) {
            long[] ends = {x.leastCells(what, 0), x.leastCells(what, 1), x.leastCells(what, 15), x.leastCells(what, 16)};
            Due.are("none, one, all but one, all, what " + what, ends, 0, 2, what == 0 ? 1 : 2, 0);
        }
        Due.is("one of one", Made.grid(1, 1).leastCells(0, 1), 0);
        States.changesNothing("leastCells(0, 1)", y -> y.leastCells(0, 1));
    }

    private static void leastCellsBad() {
        for (int what : new int[] {-1, 2, LEAST_INT, GREATEST_INT}) {
            States.refused("what " + what + ", also of 64", x -> x.leastCells(what, 1), -1);
        }
        for (int m : new int[] {-1, 65, LEAST_INT, GREATEST_INT}) {
            States.refused("m " + m + ", also of 64", x -> x.leastCells(0, m), -1);
        }
        for (int[] side : SMALL) {
            Due.is("one more than there are", Made.grid(side[0], side[1]).leastCells(1, side[0] * side[1] + 1), -1);
        }
        Due.is("one more than 18", Made.grid(6, 3).leastCells(1, 19), -1);
    }

    private static void leastCellsState() {
        for (int w = 1; w <= 8; w++) {
            for (int h = 1; h <= 8; h++) {
                LeastShadows x = Made.grid(w, h);
                Due.is("none of " + w + ", " + h, x.leastCells(0, 0), w * h > 16 ? -5 : 0);
                Due.is("all of " + w + ", " + h, x.leastCells(1, w * h), w * h > 16 ? -5 : 0);
            }
        }
        States.refused(States::full, "leastCells(0, 1)", x -> x.leastCells(0, 1), -5);
    }

    private static void meetsCells() {
        for (int[] side : SMALL) {
            int w = side[0];
            int h = side[1];
            for (int what = 0; what <= 1; what++) {
                long[][] least = leastOf(w, h, what);
                for (int order = 0; order <= 2; order++) {
                    LeastShadows x = Made.grid(w, h);
                    long first = 0;
                    for (int m = 0; m <= w * h; m++) {
                        int measured = what == 0 ? Long.bitCount(borderOf(w, h, first)) : edgesOf(w, h, first);
                        Due.is("order " + order + ", what " + what + ", m " + m + " of " + w + ", " + h, x.meetsCells(order, what, m), measured == least[m][0] ? 1 : 0);
                        first |= m < w * h ? 1L << sorted(w, h, order).get(m) : 0;
                    }
                }
            }
        }
        States.changesNothing("meetsCells(0, 0, 1)", y -> y.meetsCells(0, 0, 1));
    }

    private static void meetsCellsBad() {
        for (int order : new int[] {-1, 3, LEAST_INT, GREATEST_INT}) {
            States.refused("order " + order + ", also of 64", x -> x.meetsCells(order, 0, 1), -1);
        }
        for (int what : new int[] {-1, 2, LEAST_INT, GREATEST_INT}) {
            States.refused("what " + what + ", also of 64", x -> x.meetsCells(0, what, 1), -1);
        }
        for (int m : new int[] {-1, 65, LEAST_INT, GREATEST_INT}) {
            States.refused("m " + m + ", also of 64", x -> x.meetsCells(0, 0, m), -1);
        }
        Due.is("17 of 16", new LeastShadows().meetsCells(0, 0, 17), -1);
        Due.is("18 of 17 and more", Made.grid(8, 3).meetsCells(0, 0, 25), -1);
    }

    private static void meetsCellsState() {
        for (int w = 1; w <= 8; w++) {
            for (int h = 1; h <= 8; h++) {
                LeastShadows x = Made.grid(w, h);
                Due.is("none of " + w + ", " + h, x.meetsCells(2, 0, 0), w * h > 16 ? -5 : 1);
                Due.is("all of " + w + ", " + h, x.meetsCells(1, 1, w * h), w * h > 16 ? -5 : 1);
            }
        }
        States.refused(States::full, "meetsCells(0, 0, 1)", x -> x.meetsCells(0, 0, 1), -5);
    }
}
