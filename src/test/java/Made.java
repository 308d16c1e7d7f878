/** Objects in states that many tests begin with. */
final class Made {
    static final long NONE = LeastShadows.VOID;

    private Made() { }

    /** All sets of a cube of n elements. */
    static long all(int n) {
        return n == 6 ? -1L : (1L << (1 << n)) - 1;
    }

    /** The set of all elements, as the only one. */
    static long top(int n) {
        return 1L << ((1 << n) - 1);
    }

    /** All sets of a size. */
    static long ofSize(int n, int size) {
        long those = 0;
        for (int s = 0; s < 1 << n; s++) {
            those |= Integer.bitCount(s) == size ? 1L << s : 0;
        }
        return those;
    }

    static LeastShadows cube(int n, long... told) {
        LeastShadows x = new LeastShadows();
        x.cube(n);
        for (long sets : told) {
            x.come(sets);
        }
        return x;
    }

    static LeastShadows families(long... told) {
        return cube(4, told);
    }

    /** One family of a kind, with a figure. */
    static LeastShadows kind(int n, int kind, int figure, long told) {
        LeastShadows x = cube(n, told);
        x.set(0, 1, figure);
        x.set(0, 0, kind);
        return x;
    }

    static long setsByKind(int n, int kind, int figure, long told) {
        return kind(n, kind, figure, told).sets(0, 0);
    }

    static LeastShadows grid(int w, int h) {
        LeastShadows x = new LeastShadows();
        x.grid(w, h);
        return x;
    }

    static LeastShadows fullOfFamilies() {
        return families(1, 2, 4, 8, 16, 32, 64, 128);
    }

    static void feed(LeastShadows x, String text) {
        for (char letter : text.toCharArray()) {
            x.feed(letter);
        }
    }

    static int read(LeastShadows x, String text) {
        feed(x, text);
        return x.read();
    }

    static String paper(LeastShadows x) {
        StringBuilder text = new StringBuilder();
        int bytes = x.count(5);
        for (int i = 0; i < bytes; i++) {
            text.append((char) x.paper(i));
        }
        return text.toString();
    }

    /** The row of a shelf as it stands, NONE where it is empty. */
    static long[] row(LeastShadows x, int shelf, int places) {
        long[] row = new long[places];
        for (int i = 0; i < places; i++) {
            row[i] = x.kept(shelf, i);
        }
        return row;
    }

    /** So many changes: the figure goes round. */
    static LeastShadows changed(int times) {
        LeastShadows x = families(6);
        for (int i = 1; i <= times; i++) {
            x.set(0, 1, i % 10);
        }
        return x;
    }
}
