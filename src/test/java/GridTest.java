/** Promises 21 to 26: the grid. */
public final class GridTest {
    private static final long NONE = LeastShadows.VOID;

    public static void main(String[] args) {
        grid();
        cellsAndBorder();
        firstCells();
        leastCells();
        meetsCells();
        Due.end();
    }

    private static void grid() {
        LeastShadows x = new LeastShadows();
        long[] row = {x.grid(3, 2), x.grid(0, 2), x.grid(9, 2), x.grid(2, 0), x.grid(2, 9), x.grid(8, 1), x.grid(8, 8)};
        Due.are("grid", row, 44, -1, -1, -1, -1, 32, 81);
        x.come(1);
        x.set(0, 0, 2);
        x.image();
        x.grid(1, 1);
        Due.is("the grid is in no change", x.count(2), 1);
        Due.is("the grid is not in the image", x.alike(), 1);
        x.back();
        Due.is("back leaves the grid", x.grid(2, 2), 11);
    }

    private static void cellsAndBorder() {
        LeastShadows x = new LeastShadows();
        x.grid(3, 2);
        Due.is("border of a corner", x.cells(1, 0), 2);
        Due.is("edges of a corner", x.cells(1, 1), 2);
        Due.is("border cells", x.border(5), 42);
        Due.is("two cells, one border cell between", x.cells(5, 0), 3);
        Due.is("edges of both", x.cells(5, 1), 4);
        Due.is("no way round the side: cell 2", x.border(4), 1L << 1 | 1L << 5);
        Due.is("no way round the side: cell 3", x.border(8), 1L | 1L << 4);
        Due.is("none", x.border(0), 0);
        Due.is("all", x.cells(63, 1), 0);
        long[] bad = {x.cells(64, 0), x.cells(-1, 0), x.cells(1, 2), x.cells(1, -1)};
        Due.are("bad cells()", bad, -1, -1, -1, -1);
        long[] badBorder = {x.border(64), x.border(NONE)};
        Due.are("bad border()", badBorder, NONE, NONE);
        x.grid(8, 8);
        Due.is("the last cell, told as VOID", x.border(NONE), 1L << 62 | 1L << 55);
        Due.is("its border", x.cells(NONE, 0), 2);
        Due.is("all of 64", x.cells(-1, 1), 0);
        Due.is("a row", x.cells(255, 1), 8);
        Due.is("a column", x.cells(0x0101010101010101L, 0), 8);
        x.grid(1, 8);
        Due.is("one column", x.border(8), 20);
        x.grid(8, 1);
        Due.is("one row", x.border(8), 20);
        x.grid(1, 1);
        Due.is("one cell", x.border(1), 0);
        Due.is("no second", x.border(2), NONE);
    }

    private static void firstCells() {
        LeastShadows x = new LeastShadows();
        long[] diagonals = {x.firstCells(1, 0), x.firstCells(1, 1), x.firstCells(1, 2), x.firstCells(1, 3), x.firstCells(1, 6), x.firstCells(1, 16)};
        Due.are("order 1", diagonals, 0, 1, 1 | 1 << 4, 1 | 1 << 4 | 1 << 1, 311, 65535);
        long[] squares = {x.firstCells(2, 1), x.firstCells(2, 2), x.firstCells(2, 3), x.firstCells(2, 4), x.firstCells(2, 9)};
        Due.are("order 2", squares, 1, 3, 19, 51, 0x777);
        Due.is("order 0", x.firstCells(0, 5), 31);
        long[] bad = {x.firstCells(3, 1), x.firstCells(-1, 1), x.firstCells(0, 17), x.firstCells(0, -1)};
        Due.are("bad firstCells()", bad, NONE, NONE, NONE, NONE);
        x.grid(8, 8);
        Due.is("all of 64", x.firstCells(1, 64), -1);
        x.grid(8, 2);
        Due.is("as wide as it may be", x.firstCells(1, 5), 1 | 1 << 8 | 1 << 1 | 1 << 9 | 1 << 2);
    }

    private static void leastCells() {
        LeastShadows x = new LeastShadows();
        long[] four = {x.leastCells(0, 0), x.leastCells(0, 1), x.leastCells(0, 3), x.leastCells(0, 8), x.leastCells(0, 16)};
        Due.are("borders on 4 times 4", four, 0, 2, 3, 4, 0);
        long[] edges = {x.leastCells(1, 1), x.leastCells(1, 4), x.leastCells(1, 8), x.leastCells(1, 15)};
        Due.are("edges on 4 times 4", edges, 2, 4, 4, 2);
        long[] bad = {x.leastCells(2, 1), x.leastCells(-1, 1), x.leastCells(0, -1), x.leastCells(0, 17)};
        Due.are("bad leastCells()", bad, -1, -1, -1, -1);
        x.grid(8, 2);
        Due.is("8 times 2", x.leastCells(0, 4), 2);
        x.grid(6, 3);
        Due.is("18 cells", x.leastCells(0, 18), -5);
        Due.is("BAD ahead", x.leastCells(0, 19), -1);
    }

    private static void meetsCells() {
        LeastShadows x = new LeastShadows();
        long[] some = {x.meetsCells(0, 0, 4), x.meetsCells(1, 0, 6), x.meetsCells(2, 1, 4), x.meetsCells(0, 1, 6), x.meetsCells(2, 0, 0), x.meetsCells(1, 1, 16)};
        Due.are("meetsCells", some, 1, 1, 1, 1, 1, 1);
        long[] bad = {x.meetsCells(3, 0, 1), x.meetsCells(-1, 0, 1), x.meetsCells(0, 2, 1), x.meetsCells(0, -1, 1), x.meetsCells(0, 0, -1), x.meetsCells(0, 0, 17)};
        Due.are("bad meetsCells()", bad, -1, -1, -1, -1, -1, -1);
        x.grid(8, 2);
        Due.is("a row is longer than a square", x.meetsCells(0, 1, 4), 0);
        Due.is("a square is not", x.meetsCells(2, 1, 4), 1);
        x.grid(4, 5);
        Due.is("20 cells", x.meetsCells(0, 0, 20), -5);
        Due.is("BAD ahead", x.meetsCells(0, 0, 21), -1);
    }
}
