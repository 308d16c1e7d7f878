/** Promises 27 to 30: floats, doubles, told profiles, lots. */
public final class MeasureTest {
    private static final long NONE = LeastShadows.VOID;

    public static void main(String[] args) {
        bits();
        weight();
        judge();
        lots();
        Due.end();
    }

    private static void bits() {
        LeastShadows x = new LeastShadows();
        x.come(6152);
        Due.is("density", x.bits(0, 0), Float.floatToIntBits(3f / 16f));
        Due.is("mean", x.bits(0, 1), Float.floatToIntBits(7f / 3f));
        Due.is("thousandths, cut", x.bits(0, 2), 187);
        x.come(0);
        long[] none = {x.bits(1, 0), x.bits(1, 1), x.bits(1, 2)};
        Due.are("of no sets", none, 0, NONE, 0);
        x.come(1);
        Due.is("mean of the empty set", x.bits(2, 1), 0);
        x.come(65535);
        long[] all = {x.bits(3, 0), x.bits(3, 1), x.bits(3, 2)};
        Due.are("of all", all, Float.floatToIntBits(1f), Float.floatToIntBits(2f), 1000);
        long[] bad = {x.bits(0, 3), x.bits(0, -1), x.bits(4, 0), x.bits(-1, 0)};
        Due.are("bad bits()", bad, NONE, NONE, NONE, NONE);
        x.cube(6);
        for (int many = 1; many <= 64; many += 7) {
            x.first(2, many);
            int together = 0;
            for (int k = 0; k < many; k++) {
                together += Integer.bitCount(x.ordered(2, k));
            }
            Due.is("density of " + many, x.bits(x.count(0) - 1, 0), Float.floatToIntBits((float) many / 64f));
            Due.is("mean of " + many, x.bits(x.count(0) - 1, 1), Float.floatToIntBits((float) together / (float) many));
            x.drop();
        }
    }

    private static void weight() {
        LeastShadows x = new LeastShadows();
        Due.is("no family", x.weight(0), NONE);
        Due.is("no family", x.weight(-1), NONE);
        x.come(0);
        Due.is("of no sets", x.weight(0), 0);
        x.come(65535);
        double all = 0.0;
        for (int s = 0; s < 16; s++) {
            all += 1.0 / new int[] {1, 4, 6, 4, 1}[Integer.bitCount(s)];
        }
        Due.is("of all, in the order of numbers", x.weight(1), Double.doubleToLongBits(all));
        x.come(6152);
        Due.is("ab, abd, cd", x.weight(2), Double.doubleToLongBits(0.0 + 1.0 / 6 + 1.0 / 4 + 1.0 / 6));
        x.cube(6);
        x.come(1L << 7);
        Due.is("abc", x.weight(0), Double.doubleToLongBits(1.0 / 20));
        x.set(0, 0, 1);
        double others = 0.0;
        for (int s = 0; s < 64; s++) {
            others += s == 7 ? 0 : 1.0 / new int[] {1, 6, 15, 20, 15, 6, 1}[Integer.bitCount(s)];
        }
        Due.is("all but abc", x.weight(0), Double.doubleToLongBits(others));
    }

    private static void judge() {
        LeastShadows x = new LeastShadows();
        x.come(6152);
        Due.is("missing", x.judge(0, 0), -11);
        long[] bad = {x.judge(3, 0), x.judge(-1, 0), x.judge(0, 1), x.judge(0, -1)};
        Due.are("bad judge()", bad, -1, -1, -1, -1);
        x.list(0, 0, 0);
        Due.is("nothing told", x.judge(0, 0), 100);
        x.list(0, 1, 4);
        Due.is("size 2 is otherwise", x.judge(0, 0), 2);
        x.put(0, 2, 2);
        x.put(0, 3, 1L << 32 | 1);
        Due.is("size 3 is otherwise, as a long", x.judge(0, 0), 3);
        x.put(0, 3, 1);
        Due.is("just size 4 is not told", x.judge(0, 0), 104);
        x.list(0, 0, 20);
        x.put(0, 2, 2);
        x.put(0, 3, 1L << 32 | 1);
        x.put(0, 5, 9);
        Due.is("none is otherwise; what stands behind does not matter", x.judge(0, 0), -2);
        x.put(0, 0, 1);
        Due.is("size 0 is otherwise", x.judge(0, 0), 0);
    }

    private static void lots() {
        LeastShadows x = new LeastShadows();
        long[] bad = {x.lots(0, 50, 1, 0), x.lots(21, 50, 1, 0), x.lots(1, -1, 1, 0), x.lots(1, 101, 1, 0), x.lots(1, 50, 1, 2), x.lots(1, 50, 1, -1)};
        Due.are("bad lots()", bad, -1, -1, -1, -1, -1, -1);
        Due.is("p 0: none", x.lots(20, 0, 77, 1), 0);
        Due.is("p 100: all", x.lots(20, 100, 77, 0), 0);
        Due.holds("one lot is one", x.lots(1, 100, 1, 0) == 0 && x.lots(1, 50, 1, 1) > 0);
        for (int what = 0; what <= 1; what++) {
            int z = Integer.MIN_VALUE + 5;
            int together = 0;
            for (int lot = 0; lot < 20; lot++) {
                long drawn = 0;
                for (int s = 0; s < 16; s++) {
                    z = z * 1103515245 + 12345;
                    drawn |= (z & 0x7fffffff) / 65536 % 100 < 37 ? 1L << s : 0;
                }
                x.come(drawn);
                together += x.of(0, what == 0 ? 5 : 6);
                x.drop();
            }
            Due.is("lots by what " + what, x.lots(20, 37, Integer.MIN_VALUE + 5, what), together);
        }
        Due.is("nothing came", x.count(0), 0);
    }
}
