/** Promises 18 to 20: cascades. */
public final class CascadeTest {
    public static void main(String[] args) {
        cascade();
        bound();
        scaled();
        Due.end();
    }

    private static void cascade() {
        LeastShadows x = new LeastShadows();
        long[] eleven = {x.cascade(11, 3, -1), x.cascade(11, 3, 0), x.cascade(11, 3, 1), x.cascade(11, 3, 2)};
        Due.are("11 by 3", eleven, 2, 5, 2, -2);
        Due.is("0 has no place", x.cascade(0, 3, -1), 0);
        Due.is("0 has no first", x.cascade(0, 3, 0), -2);
        Due.is("1 by 12", x.cascade(1, 12, 0), 12);
        Due.is("greatest by 1", x.cascade(2000000000, 1, 0), 2000000000);
        Due.is("greatest by 2", x.cascade(2000000000, 2, 0), 63246);
        Due.is("greatest by 12", x.cascade(2000000000, 12, 0), 37);
        Due.is("far behind", x.cascade(5, 2, Integer.MAX_VALUE), -2);
        long[] bad = {x.cascade(-1, 1, 0), x.cascade(2000000001, 1, 0), x.cascade(1, 0, 0), x.cascade(1, 13, 0), x.cascade(1, 1, -2)};
        Due.are("bad cascade()", bad, -1, -1, -1, -1, -1);
        Due.is("the longest: 12 a's", x.cascade(111, 12, -1), steps(111, 12));
    }

    /** How many a's, told by adding up: the row's choices come to m. */
    private static long steps(int m, int k) {
        long left = m;
        int many = 0;
        for (int i = k; i > 0 && left > 0; i--) {
            long choices = 1;
            for (long a = i; choices * (a + 1) / (a + 1 - i) <= left; a++) {
                choices = choices * (a + 1) / (a + 1 - i);
            }
            left -= choices;
            many++;
        }
        return many;
    }

    private static void bound() {
        LeastShadows x = new LeastShadows();
        long[] some = {x.bound(10, 3), x.bound(11, 3), x.bound(0, 4), x.bound(1, 1), x.bound(5, 1), x.bound(2000000000, 12)};
        Due.are("bound", some, 10, 12, 0, 1, 1, 928961178);
        long[] bad = {x.bound(-1, 1), x.bound(2000000001, 1), x.bound(1, 0), x.bound(1, 13)};
        Due.are("bad bound()", bad, -1, -1, -1, -1);
        x.cube(5);
        for (int m = 0; m <= 10; m++) {
            Due.is("the bound is what there is, m " + m, x.least(2, m, 2), x.bound(m, 2));
        }
    }

    private static void scaled() {
        LeastShadows x = new LeastShadows();
        Due.is("scaled", x.scaled(11, 3, 100), 1200);
        Due.is("by 1", x.scaled(11, 3, 1), 12);
        Due.is("the greatest int", x.scaled(1, 1, 2000000000), 2000000000);
        Due.is("just within", x.scaled(3, 2, 715827882), 2147483646);
        Due.is("just beyond", x.scaled(3, 2, 715827883), -6);
        Due.is("of 0", x.scaled(0, 1, 2000000000), 0);
        Due.is("far beyond", x.scaled(2000000000, 12, 2000000000), -6);
        long[] bad = {x.scaled(-1, 1, 1), x.scaled(1, 0, 1), x.scaled(1, 13, 1), x.scaled(1, 1, 0), x.scaled(1, 1, 2000000001), x.scaled(2000000001, 1, 2)};
        Due.are("bad scaled()", bad, -1, -1, -1, -1, -1, -1);
    }
}
