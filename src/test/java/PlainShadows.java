import java.util.ArrayDeque;
import java.util.ArrayList;
import java.util.Arrays;
import java.util.Comparator;
import java.util.HashMap;
import java.util.HashSet;
import java.util.List;
import java.util.Map;
import java.util.Set;
import java.util.TreeSet;
import java.math.BigInteger;

/**
 * The document once more, the slow and plain way, with the whole Java library: sets as TreeSets of
 * elements, kinds as classes with super, orders as comparators, least ones by trying all.
 * Random runs of calls are compared with it.
 */
final class PlainShadows {
    private static final int BAD = -1, NOT = -2, FULL = -3, STATE = -5, OVER = -6;
    private static final long VOID = Long.MIN_VALUE;

    /** A set by its number, and what one asks of it. */
    private static boolean has(int set, int element) {
        return (set / (1 << element)) % 2 == 1;
    }

    private static int size(int set) {
        int size = 0;
        for (int e = 0; e < 6; e++) {
            size += has(set, e) ? 1 : 0;
        }
        return size;
    }

    private static boolean isPart(int part, int set) {
        for (int e = 0; e < 6; e++) {
            if (has(part, e) && !has(set, e)) {
                return false;
            }
        }
        return true;
    }

    private static boolean areBeside(int a, int b) {
        int differing = 0;
        for (int e = 0; e < 6; e++) {
            differing += has(a, e) != has(b, e) ? 1 : 0;
        }
        return differing == 1;
    }

    private static TreeSet<Integer> some(long bits) {
        TreeSet<Integer> some = new TreeSet<>();
        for (int s = 0; s < 64; s++) {
            if ((bits & (1L << s)) != 0) {
                some.add(s);
            }
        }
        return some;
    }

    private static long bitsOf(Set<Integer> some) {
        long bits = 0;
        for (int s : some) {
            bits |= 1L << s;
        }
        return bits;
    }

    private int n = 4;
    private int w = 4;
    private int h = 4;
    private final List<Integer> trace = new ArrayList<>();

    private class Family {
        int figure;
        TreeSet<Integer> told = new TreeSet<>();
        int i;

        int kind() { return 0; }

        TreeSet<Integer> inside() {
            TreeSet<Integer> inside = new TreeSet<>();
            for (int s : told) {
                if (s < 1 << n) {
                    inside.add(s);
                }
            }
            return inside;
        }

        TreeSet<Integer> sets() { return inside(); }

        int grows(int x) { trace.add(10); return x + i; }

        int turns(int x) { trace.add(11); return grows(x) * 2; }

        int tells(int x) { trace.add(12); return turns(x) - figure; }
    }

    private class Others extends Family {
        @Override int kind() { return 1; }

        @Override TreeSet<Integer> sets() {
            TreeSet<Integer> others = new TreeSet<>();
            for (int s = 0; s < 1 << n; s++) {
                if (!told.contains(s)) {
                    others.add(s);
                }
            }
            return others;
        }

        @Override int turns(int x) { trace.add(20); return super.turns(x) ^ 3; }
    }

    private class Turned extends Family {
        @Override int kind() { return 2; }

        @Override TreeSet<Integer> sets() {
            TreeSet<Integer> turned = new TreeSet<>();
            for (int s : inside()) {
                turned.add((1 << n) - 1 - s);
            }
            return turned;
        }

        @Override int grows(int x) { trace.add(30); return -super.grows(x); }
    }

    private class Level extends Family {
        @Override int kind() { return 3; }

        @Override TreeSet<Integer> sets() {
            TreeSet<Integer> level = new TreeSet<>();
            for (int s : inside()) {
                if (size(s) == figure) {
                    level.add(s);
                }
            }
            return level;
        }

        @Override int turns(int x) { trace.add(50); return super.turns(x) + grows(2); }
    }

    private class Below extends Level {
        @Override int kind() { return 4; }

        @Override TreeSet<Integer> sets() {
            TreeSet<Integer> level = super.sets();
            TreeSet<Integer> below = new TreeSet<>();
            for (int s = 0; s < 1 << n; s++) {
                for (int t : level) {
                    if (isPart(s, t)) {
                        below.add(s);
                    }
                }
            }
            return below;
        }

        @Override int tells(int x) { trace.add(60); return super.tells(x) ^ figure; }
    }

    private class Mirrored extends Turned {
        @Override int kind() { return 5; }

        @Override TreeSet<Integer> sets() {
            TreeSet<Integer> mirrored = new TreeSet<>();
            for (int s : super.sets()) {
                int image = 0;
                for (int e = 0; e < n; e++) {
                    if (has(s, e)) {
                        image += 1 << (n - 1 - e);
                    }
                }
                mirrored.add(image);
            }
            return mirrored;
        }

        @Override int tells(int x) { trace.add(40); return super.tells(x + 1); }

        @Override int grows(int x) { trace.add(41); return super.grows(x) * 3; }
    }

    private Family make(int kind, int figure, Set<Integer> told, int i) {
        Family made;
        switch (kind) {
            case 1: made = new Others(); break;
            case 2: made = new Turned(); break;
            case 3: made = new Level(); break;
            case 4: made = new Below(); break;
            case 5: made = new Mirrored(); break;
            default: made = new Family();
        }
        made.figure = figure;
        made.told = new TreeSet<>(told);
        made.i = i;
        return made;
    }

    private Family copy(Family family) {
        return family == null ? null : make(family.kind(), family.figure, family.told, family.i);
    }

    private final List<Family> families = new ArrayList<>();
    private final ArrayDeque<int[]> done = new ArrayDeque<>();
    private final ArrayDeque<int[]> undone = new ArrayDeque<>();
    private String tape = "";
    private String page = "";
    private final List<List<Family>> shelves = new ArrayList<>(Arrays.asList(null, null, null));
    private final int[] shelfSorts = new int[3];
    private final long[][] lists = new long[3][];
    private final int[] listSorts = new int[3];
    private List<Family> imaged = null;
    private int imagedN;

    private boolean isFamily(int family) {
        return family >= 0 && family < families.size();
    }

    // ---- the cube, families

    int cube(int to) {
        if (to < 1 || to > 6) {
            return BAD;
        }
        int was = n;
        n = to;
        families.clear();
        noChanges();
        return was;
    }

    private void noChanges() {
        done.clear();
        undone.clear();
    }

    int come(long sets) {
        for (int s : some(sets)) {
            if (s >= 1 << n) {
                return BAD;
            }
        }
        return bring(some(sets));
    }

    private int bring(Set<Integer> told) {
        if (families.size() == 8) {
            return FULL;
        }
        families.add(make(0, 0, told, families.size()));
        noChanges();
        return families.size() - 1;
    }

    int drop() {
        if (families.isEmpty()) {
            return STATE;
        }
        families.remove(families.size() - 1);
        noChanges();
        return families.size();
    }

    int set(int family, int what, int v) {
        if (!isFamily(family) || what != 0 && what != 1 || v < 0 || v > (what == 0 ? 5 : 9)) {
            return BAD;
        }
        int was = of(family, what);
        if (was != v) {
            tell(family, what, v);
            done.addLast(new int[] {family, what, was, v});
            if (done.size() > 12) {
                done.removeFirst();
            }
            undone.clear();
        }
        return was;
    }

    private void tell(int family, int what, int v) {
        Family old = families.get(family);
        families.set(family, what == 0 ? make(v, old.figure, old.told, family) : make(old.kind(), v, old.told, family));
    }

    private TreeSet<Integer> shadow(Set<Integer> sets) {
        TreeSet<Integer> shadow = new TreeSet<>();
        for (int s : sets) {
            for (int e = 0; e < n; e++) {
                if (has(s, e)) {
                    shadow.add(s - (1 << e));
                }
            }
        }
        return shadow;
    }

    private TreeSet<Integer> upper(Set<Integer> sets) {
        TreeSet<Integer> upper = new TreeSet<>();
        for (int s : sets) {
            for (int e = 0; e < n; e++) {
                if (!has(s, e)) {
                    upper.add(s + (1 << e));
                }
            }
        }
        return upper;
    }

    private TreeSet<Integer> borderOf(Set<Integer> sets) {
        TreeSet<Integer> border = shadow(sets);
        border.addAll(upper(sets));
        border.removeAll(sets);
        return border;
    }

    private int edges(Set<Integer> sets) {
        int edges = 0;
        for (int a : sets) {
            for (int b = 0; b < 1 << n; b++) {
                edges += !sets.contains(b) && areBeside(a, b) ? 1 : 0;
            }
        }
        return edges;
    }

    long sets(int family, int what) {
        if (!isFamily(family) || what < 0 || what > 4) {
            return VOID;
        }
        Family f = families.get(family);
        switch (what) {
            case 0: return bitsOf(f.sets());
            case 1: return bitsOf(f.told);
            case 2: return bitsOf(shadow(f.sets()));
            case 3: return bitsOf(upper(f.sets()));
            default: return bitsOf(borderOf(f.sets()));
        }
    }

    int of(int family, int what) {
        if (!isFamily(family) || what < 0 || what > 6) {
            return BAD;
        }
        Family f = families.get(family);
        switch (what) {
            case 0: return f.kind();
            case 1: return f.figure;
            case 2: return f.sets().size();
            case 3: return shadow(f.sets()).size();
            case 4: return upper(f.sets()).size();
            case 5: return borderOf(f.sets()).size();
            default: return edges(f.sets());
        }
    }

    int is(int family, int what) {
        if (!isFamily(family) || what < 0 || what > 3) {
            return BAD;
        }
        Set<Integer> f = families.get(family).sets();
        boolean so = true;
        for (int a : f) {
            for (int b = 0; b < 1 << n; b++) {
                if (what == 0 && f.contains(b)) {
                    so &= a == b || !isPart(a, b);
                } else if (what == 1 && f.contains(b)) {
                    boolean common = false;
                    for (int e = 0; e < n; e++) {
                        common |= has(a, e) && has(b, e);
                    }
                    so &= common;
                } else if (what == 2 && isPart(b, a)) {
                    so &= f.contains(b);
                }
            }
        }
        for (int j = 0; j < n && what == 3; j++) {
            for (int i = 0; i < j; i++) {
                so &= press(f, i, j).equals(f);
            }
        }
        return so ? 1 : 0;
    }

    int profile(int family, int size) {
        if (!isFamily(family) || size < 0 || size > n) {
            return BAD;
        }
        return profile(families.get(family).sets(), size);
    }

    private int profile(Set<Integer> sets, int size) {
        int many = 0;
        for (int s : sets) {
            many += size(s) == size ? 1 : 0;
        }
        return many;
    }

    // ---- pressed

    private TreeSet<Integer> press(Set<Integer> sets, int i, int j) {
        TreeSet<Integer> pressed = new TreeSet<>();
        for (int s : sets) {
            int other = s - (1 << j) + (1 << i);
            boolean goes = has(s, j) && !has(s, i) && !sets.contains(other);
            pressed.add(goes ? other : s);
        }
        return pressed;
    }

    long pressed(int family, int i, int j) {
        if (!isFamily(family) || i < 0 || j < 0 || i >= n || j >= n || i >= j) {
            return VOID;
        }
        return bitsOf(press(families.get(family).sets(), i, j));
    }

    private int roundsTillRest(TreeSet<Integer> sets) {
        int rounds = 0;
        boolean changed = true;
        while (changed) {
            changed = false;
            for (int j = 0; j < n; j++) {
                for (int i = 0; i < j; i++) {
                    TreeSet<Integer> next = press(sets, i, j);
                    if (!next.equals(sets)) {
                        changed = true;
                        rounds++;
                        sets.clear();
                        sets.addAll(next);
                    }
                }
            }
        }
        return rounds;
    }

    int press(int family) {
        if (!isFamily(family)) {
            return BAD;
        }
        TreeSet<Integer> sets = families.get(family).sets();
        roundsTillRest(sets);
        return bring(sets);
    }

    int rounds(int family) {
        return isFamily(family) ? roundsTillRest(families.get(family).sets()) : BAD;
    }

    // ---- orders, least ones

    private List<Integer> inOrder(int order) {
        List<Integer> all = new ArrayList<>();
        for (int s = 0; s < 1 << n; s++) {
            all.add(s);
        }
        Comparator<Integer> byLeastElement = (a, b) -> {
            if (size(a) != size(b)) {
                return size(a) - size(b);
            }
            for (int e = 0; e < n; e++) {
                if (has(a, e) != has(b, e)) {
                    return has(a, e) ? -1 : 1;
                }
            }
            return 0;
        };
        Comparator<Integer> bySize = (a, b) -> size(a) != size(b) ? size(a) - size(b) : a - b;
        Comparator<Integer> withoutGreatest = (a, b) -> {
            int top = 1 << (n - 1);
            if (has(a, n - 1) != has(b, n - 1)) {
                return has(a, n - 1) ? 1 : -1;
            }
            return byLeastElement.compare(a % top, b % top);
        };
        switch (order) {
            case 1: all.sort(byLeastElement); break;
            case 2: all.sort(bySize); break;
            case 3: all.sort(withoutGreatest); break;
            default: break;
        }
        return all;
    }

    int ordered(int order, int k) {
        if (order < 0 || order > 3) {
            return BAD;
        }
        return k < 0 || k >= 1 << n ? NOT : inOrder(order).get(k);
    }

    int first(int order, int m) {
        if (order < 0 || order > 3 || m < 0 || m > 1 << n) {
            return BAD;
        }
        return bring(new HashSet<>(inOrder(order).subList(0, m)));
    }

    private static final Map<String, long[]> LEAST = new HashMap<>();

    /** How few, and the first of them: all choices of m among these are tried. */
    private long[] leastOf(boolean onGrid, int what, int m, List<Integer> among) {
        String key = (onGrid ? "grid " + w + " " + h : "cube " + n) + " " + what + " " + m + " " + among;
        long[] known = LEAST.get(key);
        if (known != null) {
            return known;
        }
        long[] best = {Long.MAX_VALUE, 0};
        for (int chosen = 0; chosen < 1 << among.size(); chosen++) {
            if (Integer.bitCount(chosen) != m) {
                continue;
            }
            Set<Integer> sets = new HashSet<>();
            for (int i = 0; i < among.size(); i++) {
                if ((chosen & 1 << i) != 0) {
                    sets.add(among.get(i));
                }
            }
            long measured = onGrid ? measureCells(what, sets) : measureSets(what, sets);
            if (measured < best[0]) {
                best = new long[] {measured, bitsOf(sets)};
            }
        }
        LEAST.put(key, best);
        return best;
    }

    private int measureSets(int what, Set<Integer> sets) {
        return what == 0 ? borderOf(sets).size() : what == 1 ? edges(sets) : shadow(sets).size();
    }

    private long[] leastOrRefusal(int what, int m, int k) {
        if (what < 0 || what > 2 || m < 0 || what == 2 && (k < 0 || k > n)) {
            return new long[] {BAD, VOID};
        }
        List<Integer> among = new ArrayList<>();
        for (int s = 0; s < 1 << n; s++) {
            if (what != 2 || size(s) == k) {
                among.add(s);
            }
        }
        if (m > among.size()) {
            return new long[] {BAD, VOID};
        }
        if (what == 2 ? among.size() > 15 : n > 4) {
            return new long[] {STATE, VOID};
        }
        return leastOf(false, what, m, among);
    }

    int least(int what, int m, int k) {
        return (int) leastOrRefusal(what, m, k)[0];
    }

    long leastSets(int what, int m, int k) {
        return leastOrRefusal(what, m, k)[1];
    }

    int meets(int order, int what, int m) {
        if (order < 0 || order > 3 || what < 0 || what > 1 || m < 0 || m > 1 << n) {
            return BAD;
        }
        if (n > 4) {
            return STATE;
        }
        Set<Integer> first = new HashSet<>(inOrder(order).subList(0, m));
        return measureSets(what, first) == least(what, m, 0) ? 1 : 0;
    }

    // ---- cascades

    private static BigInteger choices(long a, int k) {
        if (k > a) {
            return BigInteger.ZERO;
        }
        BigInteger up = BigInteger.ONE;
        BigInteger down = BigInteger.ONE;
        for (int i = 0; i < k; i++) {
            up = up.multiply(BigInteger.valueOf(a - i));
            down = down.multiply(BigInteger.valueOf(i + 1));
        }
        return up.divide(down);
    }

    private static List<Long> rowOf(int m, int k) {
        List<Long> row = new ArrayList<>();
        BigInteger left = BigInteger.valueOf(m);
        for (int i = k; i >= 1 && left.signum() > 0; i--) {
            long a = 0;
            for (long step = 1L << 31; step > 0; step /= 2) {
                if (choices(a + step, i).compareTo(left) <= 0) {
                    a += step;
                }
            }
            row.add(a);
            left = left.subtract(choices(a, i));
        }
        return row;
    }

    private static BigInteger boundOf(int m, int k) {
        BigInteger bound = BigInteger.ZERO;
        int i = k;
        for (long a : rowOf(m, k)) {
            i--;
            bound = bound.add(choices(a, i));
        }
        return bound;
    }

    private static boolean isCascade(int m, int k) {
        return m >= 0 && m <= 2000000000 && k >= 1 && k <= 12;
    }

    int cascade(int m, int k, int place) {
        if (!isCascade(m, k) || place < -1) {
            return BAD;
        }
        List<Long> row = rowOf(m, k);
        return place == -1 ? row.size() : place < row.size() ? row.get(place).intValue() : NOT;
    }

    int bound(int m, int k) {
        return isCascade(m, k) ? boundOf(m, k).intValueExact() : BAD;
    }

    int scaled(int m, int k, int by) {
        if (!isCascade(m, k) || by < 1 || by > 2000000000) {
            return BAD;
        }
        BigInteger product = boundOf(m, k).multiply(BigInteger.valueOf(by));
        return product.bitLength() > 31 ? OVER : product.intValueExact();
    }

    // ---- the grid

    int grid(int toW, int toH) {
        if (toW < 1 || toW > 8 || toH < 1 || toH > 8) {
            return BAD;
        }
        int was = 10 * w + h;
        w = toW;
        h = toH;
        return was;
    }

    private boolean areCellsBeside(int a, int b) {
        return Math.abs(a % w - b % w) + Math.abs(a / w - b / w) == 1;
    }

    private TreeSet<Integer> cellBorder(Set<Integer> cells) {
        TreeSet<Integer> border = new TreeSet<>();
        for (int a : cells) {
            for (int b = 0; b < w * h; b++) {
                if (!cells.contains(b) && areCellsBeside(a, b)) {
                    border.add(b);
                }
            }
        }
        return border;
    }

    private int measureCells(int what, Set<Integer> cells) {
        if (what == 0) {
            return cellBorder(cells).size();
        }
        int edges = 0;
        for (int a : cells) {
            for (int b = 0; b < w * h; b++) {
                edges += !cells.contains(b) && areCellsBeside(a, b) ? 1 : 0;
            }
        }
        return edges;
    }

    private boolean areCells(long cells) {
        return cells == 0 || some(cells).last() < w * h;
    }

    int cells(long cells, int what) {
        return !areCells(cells) || what < 0 || what > 1 ? BAD : measureCells(what, some(cells));
    }

    long border(long cells) {
        return areCells(cells) ? bitsOf(cellBorder(some(cells))) : VOID;
    }

    private List<Integer> cellsInOrder(int order) {
        List<Integer> all = new ArrayList<>();
        for (int c = 0; c < w * h; c++) {
            all.add(c);
        }
        if (order == 1) {
            all.sort(Comparator.<Integer>comparingInt(c -> c % w + c / w).thenComparingInt(c -> c % w));
        }
        if (order == 2) {
            all.sort(Comparator.<Integer>comparingInt(c -> Math.max(c % w, c / w)).thenComparingInt(c -> c));
        }
        return all;
    }

    long firstCells(int order, int m) {
        if (order < 0 || order > 2 || m < 0 || m > w * h) {
            return VOID;
        }
        return bitsOf(new HashSet<>(cellsInOrder(order).subList(0, m)));
    }

    int leastCells(int what, int m) {
        if (what < 0 || what > 1 || m < 0 || m > w * h) {
            return BAD;
        }
        return w * h > 16 ? STATE : (int) leastOf(true, what, m, cellsInOrder(0))[0];
    }

    int meetsCells(int order, int what, int m) {
        if (order < 0 || order > 2 || what < 0 || what > 1 || m < 0 || m > w * h) {
            return BAD;
        }
        if (w * h > 16) {
            return STATE;
        }
        return measureCells(what, some(firstCells(order, m))) == leastCells(what, m) ? 1 : 0;
    }

    // ---- floats, doubles

    long bits(int family, int what) {
        if (!isFamily(family) || what < 0 || what > 2) {
            return VOID;
        }
        Set<Integer> sets = families.get(family).sets();
        float density = (float) sets.size() / (1 << n);
        if (what == 0) {
            return Float.floatToIntBits(density);
        }
        if (what == 2) {
            return (int) (density * 1000f);
        }
        int together = 0;
        for (int s : sets) {
            together += size(s);
        }
        return sets.isEmpty() ? VOID : Float.floatToIntBits((float) together / sets.size());
    }

    long weight(int family) {
        if (!isFamily(family)) {
            return VOID;
        }
        double weight = 0.0;
        for (int s : families.get(family).sets()) {
            weight += 1.0 / choices(n, size(s)).intValueExact();
        }
        return Double.doubleToLongBits(weight);
    }

    // ---- told profiles, lots

    int judge(int list, int family) {
        if (list < 0 || list > 2 || !isFamily(family)) {
            return BAD;
        }
        if (lists[list] == null) {
            return -11;
        }
        for (int size = 0; size <= n; size++) {
            if (size == lists[list].length) {
                return 100 + size;
            }
            if (lists[list][size] != profile(family, size)) {
                return size;
            }
        }
        return -2;
    }

    int lots(int t, int p, int z, int what) {
        if (t < 1 || t > 20 || p < 0 || p > 100 || what < 0 || what > 1) {
            return BAD;
        }
        int together = 0;
        for (int i = 0; i < t; i++) {
            TreeSet<Integer> sets = new TreeSet<>();
            for (int s = 0; s < 1 << n; s++) {
                z = z * 1103515245 + 12345;
                int draw = (z & 0x7fffffff) / 65536 % 100;
                if (draw < p) {
                    sets.add(s);
                }
            }
            together += measureSets(what, sets);
        }
        return together;
    }

    // ---- the tape, the paper

    int feed(int letter) {
        if (letter < 32 || letter > 126) {
            return BAD;
        }
        if (tape.length() == 80) {
            return FULL;
        }
        tape += (char) letter;
        return tape.length();
    }

    int wipe() {
        int had = tape.length();
        tape = "";
        return had;
    }

    private String oneSet() {
        StringBuilder letters = new StringBuilder();
        for (int e = 0; e < n; e++) {
            letters.append((char) ('a' + e)).append('?');
        }
        return "(0|(?=[a-f])" + letters + ")";
    }

    int read() {
        String text = tape;
        tape = "";
        String whole = oneSet() + "(," + oneSet() + ")*";
        if (!text.matches(whole)) {
            // a start of a right text is one that some ending makes right
            for (int i = 1; i <= text.length(); i++) {
                String start = text.substring(0, i);
                if (!start.matches(whole) && !(start + "0").matches(whole)) {
                    return -100 - (i - 1);
                }
            }
            return -100 - text.length();
        }
        Set<Integer> told = new HashSet<>();
        for (String one : text.split(",")) {
            int s = 0;
            for (char letter : one.replace("0", "").toCharArray()) {
                s += 1 << (letter - 'a');
            }
            told.add(s);
        }
        return bring(told);
    }

    int write(int family) {
        if (!isFamily(family)) {
            return BAD;
        }
        List<String> words = new ArrayList<>();
        for (int s : families.get(family).sets()) {
            StringBuilder word = new StringBuilder();
            for (int e = 0; e < n; e++) {
                word.append(has(s, e) ? "abcdef".substring(e, e + 1) : "");
            }
            words.add(s == 0 ? "0" : word.toString());
        }
        page = String.join(",", words);
        return page.length();
    }

    int paper(int i) {
        return i < 0 || i >= page.length() ? NOT : page.charAt(i);
    }

    // ---- shelves

    int shelf(int shelf, int sort, int many) {
        if (shelf < 0 || shelf > 2 || sort < -1 || sort > 2) {
            return BAD;
        }
        if (sort == -1) {
            shelves.set(shelf, null);
            return 1;
        }
        if (many > 6) {
            return BAD;
        }
        if (many < 0) {
            return -14;
        }
        shelves.set(shelf, new ArrayList<>(java.util.Collections.nCopies(many, (Family) null)));
        shelfSorts[shelf] = sort;
        return 1;
    }

    private boolean mayStand(int shelf, Family family) {
        switch (shelfSorts[shelf]) {
            case 1: return family == null || family instanceof Level;
            case 2: return family == null || family instanceof Turned;
            default: return true;
        }
    }

    int keep(int shelf, int i, int family) {
        if (shelf < 0 || shelf > 2 || !isFamily(family)) {
            return BAD;
        }
        List<Family> row = shelves.get(shelf);
        if (row == null) {
            return -11;
        }
        if (i < 0 || i >= row.size()) {
            return -13;
        }
        if (!mayStand(shelf, families.get(family))) {
            return -12;
        }
        row.set(i, copy(families.get(family)));
        return 1;
    }

    long kept(int shelf, int i) {
        if (shelf < 0 || shelf > 2 || shelves.get(shelf) == null) {
            return VOID;
        }
        List<Family> row = shelves.get(shelf);
        return i < 0 || i >= row.size() || row.get(i) == null ? VOID : bitsOf(row.get(i).sets());
    }

    int like(int shelf, int other) {
        if (shelf < 0 || shelf > 2 || other < 0 || other > 2 || shelf == other) {
            return BAD;
        }
        if (shelves.get(other) == null) {
            return -11;
        }
        shelves.set(shelf, new ArrayList<>(shelves.get(other)));
        shelfSorts[shelf] = shelfSorts[other];
        return shelves.get(shelf).size();
    }

    int shift(int shelf, int i, int other, int j, int many) {
        if (shelf < 0 || shelf > 2 || other < 0 || other > 2) {
            return BAD;
        }
        if (shelves.get(shelf) == null || shelves.get(other) == null) {
            return -11;
        }
        List<Family> from = new ArrayList<>(shelves.get(shelf));
        List<Family> to = shelves.get(other);
        if (many < 0 || i < 0 || j < 0 || (long) i + many > from.size() || (long) j + many > to.size()) {
            return -13;
        }
        for (int p = 0; p < many; p++) {
            if (!mayStand(other, from.get(i + p))) {
                return -12;
            }
            to.set(j + p, from.get(i + p));
        }
        return many;
    }

    // ---- lists

    int list(int list, int sort, int many) {
        if (list < 0 || list > 2 || sort < -1 || sort > 1) {
            return BAD;
        }
        if (sort == -1) {
            lists[list] = null;
            return 1;
        }
        if (many > 20) {
            return BAD;
        }
        if (many < 0) {
            return -14;
        }
        lists[list] = new long[many];
        listSorts[list] = sort;
        return 1;
    }

    int put(int list, int i, long v) {
        if (list < 0 || list > 2) {
            return BAD;
        }
        if (lists[list] == null) {
            return -11;
        }
        if (i < 0 || i >= lists[list].length) {
            return -13;
        }
        lists[list][i] = listSorts[list] == 0 ? (int) v : v;
        return 1;
    }

    long get(int list, int i) {
        if (list < 0 || list > 2 || lists[list] == null || i < 0 || i >= lists[list].length) {
            return VOID;
        }
        return lists[list][i];
    }

    // ---- acts of families, changes, the image

    int act(int family, int act, int x) {
        if (!isFamily(family) || act < 0 || act > 2) {
            return 0;
        }
        trace.clear();
        Family f = families.get(family);
        return act == 0 ? f.grows(x) : act == 1 ? f.turns(x) : f.tells(x);
    }

    int trace(int i) {
        return i < 0 || i >= trace.size() || i >= 24 ? NOT : trace.get(i);
    }

    int taken(int family, int k) {
        if (!isFamily(family) || k < 0 || k > 5) {
            return BAD;
        }
        Family f = families.get(family);
        boolean so = k == 0 || k == 1 && f instanceof Others || k == 2 && f instanceof Turned
            || k == 3 && f instanceof Level || k == 4 && f instanceof Below || k == 5 && f instanceof Mirrored;
        return !so ? STATE : k == 3 || k == 4 ? f.figure : family;
    }

    int undo() {
        if (done.isEmpty()) {
            return STATE;
        }
        int[] change = done.removeLast();
        undone.addLast(change);
        tell(change[0], change[1], change[2]);
        return done.size();
    }

    int redo() {
        if (undone.isEmpty()) {
            return STATE;
        }
        int[] change = undone.removeLast();
        done.addLast(change);
        tell(change[0], change[1], change[3]);
        return undone.size();
    }

    int image() {
        imaged = new ArrayList<>();
        for (Family family : families) {
            imaged.add(copy(family));
        }
        imagedN = n;
        return imaged.size();
    }

    int alike() {
        if (imaged == null) {
            return STATE;
        }
        boolean so = n == imagedN && families.size() == imaged.size();
        for (int i = 0; so && i < families.size(); i++) {
            Family a = families.get(i);
            Family b = imaged.get(i);
            so = a.kind() == b.kind() && a.figure == b.figure && a.told.equals(b.told);
        }
        return so ? 1 : 0;
    }

    int back() {
        if (imaged == null) {
            return STATE;
        }
        n = imagedN;
        families.clear();
        for (Family family : imaged) {
            families.add(copy(family));
        }
        noChanges();
        return families.size();
    }

    int count(int what) {
        int there = 0;
        for (int i = 0; i < 3; i++) {
            there += (what == 6 ? shelves.get(i) : lists[i]) == null ? 0 : 1;
        }
        switch (what) {
            case 0: return families.size();
            case 1: return n;
            case 2: return done.size();
            case 3: return undone.size();
            case 4: return tape.length();
            case 5: return page.length();
            case 6: return there;
            case 7: return there;
            default: return BAD;
        }
    }
}
