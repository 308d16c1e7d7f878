/**
 * Families of sets on a cube, their shadows, borders and edges, the least of them, and what is
 * kept and changed of families. The promises are numbered in the document (DOC.md); the words in
 * capitals there are the plain words here.
 */
public final class LeastShadows {
    public static final int BAD = -1, NOT = -2, FULL = -3, STATE = -5, OVER = -6;
    public static final long VOID = Long.MIN_VALUE;

    private static final int MISSING = -11, OTHER_SORT = -12, OUTSIDE = -13, BELOW_ZERO = -14;
    private static final int FAULT_BASE = -100, JUDGED_BASE = 100;

    private static final int FAMILY = 0, OTHERS = 1, TURNED = 2, LEVEL = 3, BELOW = 4, MIRRORED = 5;
    private static final int KINDS = 6, FIGURES = 10;

    private static final int BY_BORDER = 0, BY_EDGES = 1, BY_SHADOW = 2;
    private static final int MOST_PLACES = 64, MOST_SEARCHED = 16, MOST_SEARCHED_LEVEL = 15;
    private static final int MOST_ELEMENTS = 6, MOST_SIDE = 8;
    private static final int SET_ORDERS = 4, CELL_ORDERS = 3;

    private static final int MOST_FAMILIES = 8, MOST_CHANGES = 12;
    private static final int SHELVES = 3, MOST_SHELF_PLACES = 6, SHELF_SORTS = 3;
    private static final int LISTS = 3, MOST_NUMBERS = 20, LIST_SORTS = 2, INTS = 0;
    private static final int MOST_TRACE = 24, MOST_TAPE = 80, MOST_PAPER = 256;

    private static final int MOST_CASCADE = 2000000000, MOST_STEPS = 12, GREATEST_INT = 2147483647;
    private static final long MOST_CHOICES = 4000000000L;

    /** Of all 64 sets those with element 0, with element 1, .. */
    private static final long[] HOLDING = {
        0xAAAAAAAAAAAAAAAAL, 0xCCCCCCCCCCCCCCCCL, 0xF0F0F0F0F0F0F0F0L,
        0xFF00FF00FF00FF00L, 0xFFFF0000FFFF0000L, 0xFFFFFFFF00000000L
    };

    private final Cube theCube = new Cube();
    private final Grid theGrid = new Grid();
    private final Families families = new Families();
    private final Changes changes = new Changes();
    private final Families imaged = new Families();
    private int imagedElements; // 0: there is no image
    private final Acts acts = new Acts();
    private final Cascade theCascade = new Cascade();
    private final Text tape = new Text(MOST_TAPE);
    private final Text page = new Text(MOST_PAPER);
    private final Shelf[] shelves = new Shelf[SHELVES];
    private final Numbers[] lists = new Numbers[LISTS];

    public LeastShadows() {
        for (int i = 0; i < shelves.length; i++) {
            shelves[i] = new Shelf();
        }
        for (int i = 0; i < lists.length; i++) {
            lists[i] = new Numbers();
        }
    }

    // ---- the cube, families

    public int cube(int n) {
        if (n < 1 || n > MOST_ELEMENTS) {
            return BAD;
        }
        int before = theCube.elements();
        theCube.reshape(n);
        families.clear();
        changes.forget();
        return before;
    }

    public int come(long sets) {
        return theCube.holds(sets) ? bring(sets) : BAD;
    }

    public int drop() {
        if (!families.removeLast()) {
            return STATE;
        }
        changes.forget();
        return families.many();
    }

    public int set(int family, int what, int v) {
        Family was = families.at(family);
        if (was == null || what < 0 || what > 1 || v < 0 || v >= (what == 0 ? KINDS : FIGURES)) {
            return BAD;
        }
        int before = what == 0 ? was.kind : was.figure;
        if (before != v) {
            Family becomes = what == 0
                ? new Family(v, was.figure, was.told) : new Family(was.kind, v, was.told);
            families.replace(family, becomes);
            changes.note(family, was, becomes);
        }
        return before;
    }

    public long sets(int family, int what) {
        Family asked = families.at(family);
        if (asked == null) {
            return VOID;
        }
        long has = theCube.setsOf(asked);
        switch (what) {
            case 0: return has;
            case 1: return asked.told;
            case 2: return theCube.shadowOf(has);
            case 3: return theCube.upperShadowOf(has);
            case 4: return theCube.borderOf(has);
            default: return VOID;
        }
    }

    public int of(int family, int what) {
        Family asked = families.at(family);
        if (asked == null) {
            return BAD;
        }
        long has = theCube.setsOf(asked);
        switch (what) {
            case 0: return asked.kind;
            case 1: return asked.figure;
            case 2: return Long.bitCount(has);
            case 3: return Long.bitCount(theCube.shadowOf(has));
            case 4: return Long.bitCount(theCube.upperShadowOf(has));
            case 5: return Long.bitCount(theCube.borderOf(has));
            case 6: return theCube.edgesOf(has);
            default: return BAD;
        }
    }

    public int is(int family, int what) {
        Family asked = families.at(family);
        if (asked == null) {
            return BAD;
        }
        long has = theCube.setsOf(asked);
        switch (what) {
            case 0: return yesOrNo(theCube.isAntichain(has));
            case 1: return yesOrNo(theCube.isIntersecting(has));
            case 2: return yesOrNo(theCube.withParts(has) == has);
            case 3: return yesOrNo(theCube.pressedByAll(has) == has);
            default: return BAD;
        }
    }

    public int profile(int family, int size) {
        Family asked = families.at(family);
        if (asked == null || size < 0 || size > theCube.elements()) {
            return BAD;
        }
        return theCube.manyOfSize(theCube.setsOf(asked), size);
    }

    // ---- pressed

    public long pressed(int family, int i, int j) {
        Family asked = families.at(family);
        if (asked == null || i < 0 || i >= j || j >= theCube.elements()) {
            return VOID;
        }
        return theCube.pressedBy(theCube.setsOf(asked), i, j);
    }

    public int press(int family) {
        Family asked = families.at(family);
        return asked == null ? BAD : bring(theCube.pressedToRest(theCube.setsOf(asked)));
    }

    public int rounds(int family) {
        Family asked = families.at(family);
        return asked == null ? BAD : theCube.roundsOf(theCube.setsOf(asked));
    }

    // ---- orders, least ones

    public int ordered(int order, int k) {
        return order < 0 || order >= SET_ORDERS ? BAD : theCube.placeBy(order, k);
    }

    public int first(int order, int m) {
        if (order < 0 || order >= SET_ORDERS || m < 0 || m > theCube.places()) {
            return BAD;
        }
        return bring(theCube.firstBy(order, m));
    }

    public int least(int what, int m, int k) {
        int refusal = refusalOfLeast(what, m, k);
        return refusal != 0 ? refusal : theCube.measure(what, theCube.leastOf(what, m, amongWhich(what, k)));
    }

    public long leastSets(int what, int m, int k) {
        return refusalOfLeast(what, m, k) != 0 ? VOID : theCube.leastOf(what, m, amongWhich(what, k));
    }

    public int meets(int order, int what, int m) {
        return order < 0 || order >= SET_ORDERS ? BAD : meetsOn(theCube, order, what, m);
    }

    // ---- cascades

    public int cascade(int m, int k, int place) {
        if (isNoCascade(m, k) || place < -1) {
            return BAD;
        }
        theCascade.lay(m, k);
        return place == -1 ? theCascade.many() : theCascade.at(place);
    }

    public int bound(int m, int k) {
        if (isNoCascade(m, k)) {
            return BAD;
        }
        theCascade.lay(m, k);
        return (int) theCascade.bounds();
    }

    public int scaled(int m, int k, int by) {
        if (isNoCascade(m, k) || by < 1 || by > MOST_CASCADE) {
            return BAD;
        }
        theCascade.lay(m, k);
        long product = theCascade.bounds() * by;
        return product > GREATEST_INT ? OVER : (int) product;
    }

    // ---- the grid

    public int grid(int w, int h) {
        if (w < 1 || w > MOST_SIDE || h < 1 || h > MOST_SIDE) {
            return BAD;
        }
        int before = 10 * theGrid.width() + theGrid.height();
        theGrid.reshape(w, h);
        return before;
    }

    public int cells(long cells, int what) {
        return !theGrid.holds(cells) || what < 0 || what > 1 ? BAD : theGrid.measure(what, cells);
    }

    public long border(long cells) {
        return theGrid.holds(cells) ? theGrid.borderOf(cells) : VOID;
    }

    public long firstCells(int order, int m) {
        if (order < 0 || order >= CELL_ORDERS || m < 0 || m > theGrid.places()) {
            return VOID;
        }
        return theGrid.firstBy(order, m);
    }

    public int leastCells(int what, int m) {
        int refusal = refusalOfLeastOn(theGrid, what, m);
        return refusal != 0 ? refusal : theGrid.measure(what, theGrid.leastOf(what, m, theGrid.all()));
    }

    public int meetsCells(int order, int what, int m) {
        return order < 0 || order >= CELL_ORDERS ? BAD : meetsOn(theGrid, order, what, m);
    }

    // ---- floats, doubles

    public long bits(int family, int what) {
        Family asked = families.at(family);
        if (asked == null) {
            return VOID;
        }
        long has = theCube.setsOf(asked);
        float density = (float) Long.bitCount(has) / (float) theCube.places();
        switch (what) {
            case 0: return bitsOfFloat(density);
            case 1: return has == 0 ? VOID : bitsOfFloat((float) theCube.sizesOf(has) / (float) Long.bitCount(has));
            case 2: return (int) (density * 1000f);
            default: return VOID;
        }
    }

    public long weight(int family) {
        Family asked = families.at(family);
        return asked == null ? VOID : bitsOfDouble(theCube.weightOf(theCube.setsOf(asked)));
    }

    // ---- told profiles, lots

    public int judge(int list, int family) {
        Numbers told = listAt(list);
        Family judged = families.at(family);
        if (told == null || judged == null) {
            return BAD;
        }
        if (told.isMissing()) {
            return MISSING;
        }
        long has = theCube.setsOf(judged);
        for (int size = 0; size <= theCube.elements(); size++) {
            if (!told.hasPlace(size)) {
                return JUDGED_BASE + size;
            }
            if (told.at(size) != theCube.manyOfSize(has, size)) {
                return size;
            }
        }
        return NOT;
    }

    public int lots(int t, int p, int z, int what) {
        if (t < 1 || t > 20 || p < 0 || p > 100 || what < 0 || what > 1) {
            return BAD;
        }
        int seed = z;
        int together = 0;
        for (int lot = 0; lot < t; lot++) {
            long drawn = 0;
            for (int s = 0; s < theCube.places(); s++) {
                seed = seed * 1103515245 + 12345;
                if ((seed & GREATEST_INT) / 65536 % 100 < p) {
                    drawn |= 1L << s;
                }
            }
            together += theCube.measure(what, drawn);
        }
        return together;
    }

    // ---- the tape, the paper

    public int feed(int letter) {
        if (letter < 32 || letter > 126) {
            return BAD;
        }
        return tape.append(letter) ? tape.length() : FULL;
    }

    public int wipe() {
        int had = tape.length();
        tape.clear();
        return had;
    }

    public int read() {
        int fault = faultOnTape();
        long told = fault < 0 ? setsOnTape() : 0;
        tape.clear();
        return fault < 0 ? bring(told) : FAULT_BASE - fault;
    }

    public int write(int family) {
        Family asked = families.at(family);
        if (asked == null) {
            return BAD;
        }
        long has = theCube.setsOf(asked);
        page.clear();
        for (int s = 0; s < theCube.places(); s++) {
            if ((has >>> s & 1) != 0) {
                writeSet(s);
            }
        }
        return page.length();
    }

    public int paper(int i) {
        return page.at(i);
    }

    // ---- shelves

    public int shelf(int shelf, int sort, int n) {
        Shelf changed = shelfAt(shelf);
        if (changed == null || sort < -1 || sort >= SHELF_SORTS) {
            return BAD;
        }
        if (sort == -1) {
            changed.remove();
            return 1;
        }
        if (n > MOST_SHELF_PLACES) {
            return BAD;
        }
        if (n < 0) {
            return BELOW_ZERO;
        }
        changed.lay(sort, n);
        return 1;
    }

    public int keep(int shelf, int i, int family) {
        Shelf keeper = shelfAt(shelf);
        Family comes = families.at(family);
        if (keeper == null || comes == null) {
            return BAD;
        }
        if (keeper.isMissing()) {
            return MISSING;
        }
        if (!keeper.hasPlaces(i, 1)) {
            return OUTSIDE;
        }
        return keeper.place(i, comes) ? 1 : OTHER_SORT;
    }

    public long kept(int shelf, int i) {
        Shelf keeper = shelfAt(shelf);
        Family stands = keeper == null ? null : keeper.at(i);
        return stands == null ? VOID : theCube.setsOf(stands);
    }

    public int like(int shelf, int other) {
        Shelf changed = shelfAt(shelf);
        Shelf model = shelfAt(other);
        if (changed == null || model == null || changed == model) {
            return BAD;
        }
        if (model.isMissing()) {
            return MISSING;
        }
        changed.becomeLike(model);
        return changed.places();
    }

    public int shift(int shelf, int i, int other, int j, int n) {
        Shelf from = shelfAt(shelf);
        Shelf to = shelfAt(other);
        if (from == null || to == null) {
            return BAD;
        }
        if (from.isMissing() || to.isMissing()) {
            return MISSING;
        }
        if (!from.hasPlaces(i, n) || !to.hasPlaces(j, n)) {
            return OUTSIDE;
        }
        return to.placeAll(from, i, j, n) ? n : OTHER_SORT;
    }

    // ---- lists

    public int list(int list, int sort, int n) {
        Numbers changed = listAt(list);
        if (changed == null || sort < -1 || sort >= LIST_SORTS) {
            return BAD;
        }
        if (sort == -1) {
            changed.remove();
            return 1;
        }
        if (n > MOST_NUMBERS) {
            return BAD;
        }
        if (n < 0) {
            return BELOW_ZERO;
        }
        changed.lay(sort, n);
        return 1;
    }

    public int put(int list, int i, long v) {
        Numbers changed = listAt(list);
        if (changed == null) {
            return BAD;
        }
        if (changed.isMissing()) {
            return MISSING;
        }
        return changed.place(i, v) ? 1 : OUTSIDE;
    }

    public long get(int list, int i) {
        Numbers asked = listAt(list);
        return asked == null || !asked.hasPlace(i) ? VOID : asked.at(i);
    }

    // ---- acts of families, changes, the image

    public int act(int family, int act, int x) {
        Family acting = families.at(family);
        if (acting == null || act < 0 || act > 2) {
            return 0;
        }
        return acts.run(acting, family, act, x);
    }

    public int trace(int i) {
        return acts.begunAt(i);
    }

    public int taken(int family, int k) {
        Family asked = families.at(family);
        if (asked == null || k < 0 || k >= KINDS) {
            return BAD;
        }
        if (!asked.isUnder(k)) {
            return STATE;
        }
        return k == LEVEL || k == BELOW ? asked.figure : family;
    }

    public int undo() {
        return changes.stepBack(families) ? changes.undoable() : STATE;
    }

    public int redo() {
        return changes.stepOn(families) ? changes.redoable() : STATE;
    }

    public int image() {
        imaged.becomeLike(families);
        imagedElements = theCube.elements();
        return families.many();
    }

    public int alike() {
        if (imagedElements == 0) {
            return STATE;
        }
        return yesOrNo(theCube.elements() == imagedElements && families.areLike(imaged));
    }

    public int back() {
        if (imagedElements == 0) {
            return STATE;
        }
        theCube.reshape(imagedElements);
        families.becomeLike(imaged);
        changes.forget();
        return families.many();
    }

    public int count(int what) {
        switch (what) {
            case 0: return families.many();
            case 1: return theCube.elements();
            case 2: return changes.undoable();
            case 3: return changes.redoable();
            case 4: return tape.length();
            case 5: return page.length();
            case 6: return shelvesThere();
            case 7: return listsThere();
            default: return BAD;
        }
    }

    // ---- helpers of the calls

    private static int yesOrNo(boolean answer) {
        return answer ? 1 : 0;
    }

    /** A new family of kind 0 and figure 0: its number, or FULL; it leaves no changes. */
    private int bring(long told) {
        if (families.isFull()) {
            return FULL;
        }
        changes.forget();
        return families.add(new Family(FAMILY, 0, told));
    }

    /** The sets of which least() looks for the best. */
    private long amongWhich(int what, int k) {
        return what == BY_SHADOW ? theCube.all() & theCube.ofSize(k) : theCube.all();
    }

    /** How least() is refused, or 0. */
    private int refusalOfLeast(int what, int m, int k) {
        if (what != BY_SHADOW) {
            return refusalOfLeastOn(theCube, what, m);
        }
        if (m < 0 || k < 0 || k > theCube.elements()) {
            return BAD;
        }
        int there = Long.bitCount(amongWhich(what, k));
        if (m > there) {
            return BAD;
        }
        return there > MOST_SEARCHED_LEVEL ? STATE : 0;
    }

    private static int refusalOfLeastOn(Ground ground, int what, int m) {
        if (what < 0 || what > 1 || m < 0 || m > ground.places()) {
            return BAD;
        }
        return ground.places() > MOST_SEARCHED ? STATE : 0;
    }

    private static int meetsOn(Ground ground, int order, int what, int m) {
        int refusal = refusalOfLeastOn(ground, what, m);
        if (refusal != 0) {
            return refusal;
        }
        int fewest = ground.measure(what, ground.leastOf(what, m, ground.all()));
        return yesOrNo(ground.measure(what, ground.firstBy(order, m)) == fewest);
    }

    private static boolean isNoCascade(int m, int k) {
        return m < 0 || m > MOST_CASCADE || k < 1 || k > MOST_STEPS;
    }

    /** The place of the tape's fault, or -1. */
    private int faultOnTape() {
        int unbegun = -1;
        int closed = MOST_ELEMENTS; // behind 0, as behind the last letter, only a comma goes on
        int latest = unbegun;
        for (int i = 0; i < tape.length(); i++) {
            int letter = tape.at(i);
            if (letter == ',' && latest != unbegun) {
                latest = unbegun;
            } else if (letter == '0' && latest == unbegun) {
                latest = closed;
            } else if (letter - 'a' > latest && letter - 'a' < theCube.elements()) {
                latest = letter - 'a';
            } else {
                return i;
            }
        }
        return latest == unbegun ? tape.length() : -1;
    }

    /** The sets that a tape without a fault tells. */
    private long setsOnTape() {
        long told = 0;
        int current = 0;
        for (int i = 0; i < tape.length(); i++) {
            int letter = tape.at(i);
            if (letter == ',') {
                told |= 1L << current;
                current = 0;
            } else if (letter != '0') {
                current |= 1 << (letter - 'a');
            }
        }
        return told | 1L << current;
    }

    private void writeSet(int s) {
        if (page.length() > 0) {
            page.append(',');
        }
        if (s == 0) {
            page.append('0');
        }
        for (int e = 0; e < theCube.elements(); e++) {
            if ((s >>> e & 1) != 0) {
                page.append('a' + e);
            }
        }
    }

    private Shelf shelfAt(int i) {
        return i >= 0 && i < shelves.length ? shelves[i] : null;
    }

    private Numbers listAt(int i) {
        return i >= 0 && i < lists.length ? lists[i] : null;
    }

    private int shelvesThere() {
        int there = 0;
        for (Shelf shelf : shelves) {
            if (shelf != null && !shelf.isMissing()) {
                there++;
            }
        }
        return there;
    }

    private int listsThere() {
        int there = 0;
        for (Numbers numbers : lists) {
            if (numbers != null && !numbers.isMissing()) {
                there++;
            }
        }
        return there;
    }

    /** How many sets of k there are of so many things; more than MOST_CHOICES is told as one more. */
    private static long choices(long things, int k) {
        if (k < 0 || k > things) {
            return 0;
        }
        long fewer = Math.min((long) k, things - k);
        long ways = 1;
        for (int i = 1; i <= fewer; i++) {
            ways = ways * (things - fewer + i) / i;
            if (ways > MOST_CHOICES) {
                return MOST_CHOICES + 1;
            }
        }
        return ways;
    }

    /** As floatToIntBits, of a value that is 0 or a normal one above it. */
    private static long bitsOfFloat(float value) {
        if (!(value > 0f)) {
            return 0;
        }
        float part = value;
        int exponent = 127;
        for (; exponent < 254 && part >= 2f; exponent++) {
            part = part / 2f;
        }
        for (; exponent > 1 && part < 1f; exponent--) {
            part = part * 2f;
        }
        return ((long) exponent << 23) + (long) (part * 8388608f) - 8388608L;
    }

    /** As doubleToLongBits, of a value that is 0 or a normal one above it. */
    private static long bitsOfDouble(double value) {
        if (!(value > 0.0)) {
            return 0;
        }
        double part = value;
        int exponent = 1023;
        for (; exponent < 2046 && part >= 2.0; exponent++) {
            part = part / 2.0;
        }
        for (; exponent > 1 && part < 1.0; exponent--) {
            part = part * 2.0;
        }
        return ((long) exponent << 52) + (long) (part * 4503599627370496.0) - 4503599627370496L;
    }

    /** A family as it is told. It never changes, so that shelves, changes and the image may share it. */
    private static final class Family {
        private final int kind;
        private final int figure;
        private final long told;

        private Family(int kind, int figure, long told) {
            this.kind = kind;
            this.figure = figure;
            this.told = told;
        }

        private boolean isLike(Family other) {
            return other != null && kind == other.kind && figure == other.figure && told == other.told;
        }

        /** Whether its kind is the one asked, or one under that. */
        private boolean isUnder(int asked) {
            int above = kind;
            for (int step = 0; step < KINDS && above != asked && above != FAMILY; step++) {
                above = kindAbove(above);
            }
            return above == asked;
        }

        private static int kindAbove(int kind) {
            switch (kind) {
                case BELOW: return LEVEL;
                case MIRRORED: return TURNED;
                default: return FAMILY;
            }
        }
    }

    /** Families in the order in which they came. */
    private static final class Families {
        private final Family[] row = new Family[MOST_FAMILIES];
        private int many;

        private int many() {
            return many;
        }

        private boolean isFull() {
            return many >= row.length;
        }

        private Family at(int i) {
            return i >= 0 && i < many && i < row.length ? row[i] : null;
        }

        private int add(Family family) {
            if (many < 0 || many >= row.length) {
                return FULL;
            }
            row[many] = family;
            many++;
            return many - 1;
        }

        private boolean removeLast() {
            if (many <= 0) {
                return false;
            }
            many--;
            return true;
        }

        private void clear() {
            many = 0;
        }

        private void replace(int i, Family family) {
            if (i >= 0 && i < many && i < row.length) {
                row[i] = family;
            }
        }

        private void becomeLike(Families other) {
            for (int i = 0; i < row.length && i < other.row.length; i++) {
                row[i] = other.row[i];
            }
            many = other.many;
        }

        private boolean areLike(Families other) {
            if (many != other.many) {
                return false;
            }
            for (int i = 0; i < many; i++) {
                Family own = at(i);
                if (own == null || !own.isLike(other.at(i))) {
                    return false;
                }
            }
            return true;
        }
    }

    /** Places, some of which are neighbours; what a cube's sets and a grid's cells have in common. */
    private abstract static class Ground {
        private final int[] keys = new int[MOST_PLACES];

        abstract int places();

        /** What there is least of: how many border places or edges some places have. */
        abstract int measure(int what, long some);

        /** A number that is less for places ahead by the order. */
        abstract int keyBy(int order, int place);

        final long all() {
            return places() >= MOST_PLACES ? -1L : (1L << places()) - 1;
        }

        final boolean holds(long some) {
            return (some & ~all()) == 0;
        }

        /** The k-th place by an order, or NOT. */
        final int placeBy(int order, int k) {
            layKeys(order);
            for (int place = 0; place < places(); place++) {
                if (rankOf(place) == k) {
                    return place;
                }
            }
            return NOT;
        }

        final long firstBy(int order, int m) {
            layKeys(order);
            long those = 0;
            for (int place = 0; place < places(); place++) {
                if (rankOf(place) < m) {
                    those |= 1L << place;
                }
            }
            return those;
        }

        private void layKeys(int order) {
            for (int place = 0; place < places() && place < keys.length; place++) {
                keys[place] = keyBy(order, place);
            }
        }

        /** How many places are ahead of this one by the keys that are laid. */
        private int rankOf(int place) {
            if (place < 0 || place >= keys.length) {
                return places();
            }
            int ahead = 0;
            for (int other = 0; other < places() && other < keys.length; other++) {
                if (keys[other] < keys[place]) {
                    ahead++;
                }
            }
            return ahead;
        }

        /** The first m of these few places that measure least. */
        final long leastOf(int what, int m, long among) {
            if (m <= 0) {
                return 0;
            }
            long end = 1L << Long.bitCount(among);
            long chosen = (1L << m) - 1;
            long best = spread(chosen, among);
            int fewest = measure(what, best);
            // C(16, 8) is 12870: no more choices than these can come
            for (int tried = 0; tried < 20000; tried++) {
                chosen = nextOfLikeSize(chosen);
                if (chosen <= 0 || chosen >= end) {
                    break;
                }
                long some = spread(chosen, among);
                int measured = measure(what, some);
                if (measured < fewest) {
                    fewest = measured;
                    best = some;
                }
            }
            return best;
        }

        /** The next greater number with as many bits; 0 has none such. */
        private static long nextOfLikeSize(long bits) {
            long lowest = bits & -bits;
            if (lowest == 0) {
                return 0;
            }
            long carried = bits + lowest;
            return carried | ((bits ^ carried) >>> 2) / lowest;
        }

        /** Of these places, counted from the lowest, those whose numbers are chosen. */
        private static long spread(long chosen, long among) {
            long lasting = among;
            long some = 0;
            for (int i = 0; i < MOST_PLACES && lasting != 0; i++) {
                long lowest = lasting & -lasting;
                if ((chosen >>> i & 1) != 0) {
                    some |= lowest;
                }
                lasting ^= lowest;
            }
            return some;
        }
    }

    /** The cube: its places are the sets of its elements. */
    private static final class Cube extends Ground {
        private int elements = 4;

        private int elements() {
            return elements;
        }

        private void reshape(int n) {
            elements = n;
        }

        int places() {
            return 1 << elements;
        }

        int measure(int what, long some) {
            switch (what) {
                case BY_BORDER: return Long.bitCount(borderOf(some));
                case BY_EDGES: return edgesOf(some);
                default: return Long.bitCount(shadowOf(some));
            }
        }

        int keyBy(int order, int place) {
            switch (order) {
                case 1: return leastElementKey(place);
                case 2: return Integer.bitCount(place) * MOST_PLACES + place;
                case 3: return leastElementKey(place) + (place >>> (elements - 1)) * 1024;
                default: return place;
            }
        }

        /** By size; then, as the least element weighs most, the one that has it is ahead. */
        private static int leastElementKey(int place) {
            int mirrored = 0;
            for (int e = 0; e < MOST_ELEMENTS; e++) {
                mirrored = mirrored * 2 + (place >>> e & 1);
            }
            return Integer.bitCount(place) * MOST_PLACES + MOST_PLACES - 1 - mirrored;
        }

        /** All sets with this element. */
        private static long holding(int element) {
            return element >= 0 && element < HOLDING.length ? HOLDING[element] : 0;
        }

        private long setsOf(Family family) {
            long told = family.told & all();
            switch (family.kind) {
                case OTHERS: return all() & ~told;
                case TURNED: return turned(told);
                case LEVEL: return told & ofSize(family.figure);
                case BELOW: return withParts(told & ofSize(family.figure));
                case MIRRORED: return mirrored(turned(told));
                default: return told;
            }
        }

        /** Of each set the one of all elements that it has not. */
        private long turned(long sets) {
            long now = sets;
            for (int e = 0; e < elements; e++) {
                now = (now & holding(e)) >>> (1 << e) | (now & ~holding(e)) << (1 << e);
            }
            return now;
        }

        /** Of each set the one with element n - 1 - i for each element i. */
        private long mirrored(long sets) {
            long now = sets;
            for (int i = 0; i < elements / 2; i++) {
                int j = elements - 1 - i;
                int step = (1 << j) - (1 << i);
                long withJ = now & holding(j) & ~holding(i);
                long withI = now & holding(i) & ~holding(j);
                now = now & ~withJ & ~withI | withJ >>> step | withI << step;
            }
            return now;
        }

        /** All sets of a size, of six elements. */
        private long ofSize(int size) {
            long those = 0;
            for (int s = 0; s < MOST_PLACES; s++) {
                if (Integer.bitCount(s) == size) {
                    those |= 1L << s;
                }
            }
            return those;
        }

        private int manyOfSize(long sets, int size) {
            return Long.bitCount(sets & ofSize(size));
        }

        private int sizesOf(long sets) {
            int together = 0;
            for (int e = 0; e < elements; e++) {
                together += Long.bitCount(sets & holding(e));
            }
            return together;
        }

        private double weightOf(long sets) {
            double weight = 0.0;
            for (int s = 0; s < places(); s++) {
                if ((sets >>> s & 1) != 0) {
                    weight = weight + 1.0 / (double) choices(elements, Integer.bitCount(s));
                }
            }
            return weight;
        }

        private long shadowOf(long sets) {
            long shadow = 0;
            for (int e = 0; e < elements; e++) {
                shadow |= (sets & holding(e)) >>> (1 << e);
            }
            return shadow;
        }

        private long upperShadowOf(long sets) {
            long shadow = 0;
            for (int e = 0; e < elements; e++) {
                shadow |= (sets & ~holding(e)) << (1 << e);
            }
            return shadow;
        }

        private long borderOf(long sets) {
            return (shadowOf(sets) | upperShadowOf(sets)) & ~sets;
        }

        private int edgesOf(long sets) {
            int edges = 0;
            for (int e = 0; e < elements; e++) {
                edges += Long.bitCount((sets ^ sets >>> (1 << e)) & ~holding(e) & all());
            }
            return edges;
        }

        /** These sets and all parts of theirs. */
        private long withParts(long sets) {
            long now = sets;
            for (int e = 0; e < elements; e++) {
                now |= (now & holding(e)) >>> (1 << e);
            }
            return now;
        }

        private boolean isAntichain(long sets) {
            return (withParts(shadowOf(sets)) & sets) == 0;
        }

        /** A set has nothing in common with just the parts of what it turns into. */
        private boolean isIntersecting(long sets) {
            return (withParts(turned(sets)) & sets) == 0;
        }

        private long pressedBy(long sets, int i, int j) {
            int step = (1 << j) - (1 << i);
            long coming = (sets & holding(j) & ~holding(i)) >>> step & ~sets;
            return sets & ~(coming << step) | coming;
        }

        /** Pressed by every pair once, as the rounds go. */
        private long pressedByAll(long sets) {
            long now = sets;
            for (int j = 1; j < elements; j++) {
                for (int i = 0; i < j; i++) {
                    now = pressedBy(now, i, j);
                }
            }
            return now;
        }

        private long pressedToRest(long sets) {
            long now = sets;
            // each turn that changes something lessens the sum of all numbers, which is 2016 at most
            for (int turn = 0; turn < 4096; turn++) {
                long next = pressedByAll(now);
                if (next == now) {
                    break;
                }
                now = next;
            }
            return now;
        }

        private int roundsOf(long sets) {
            long now = sets;
            int rounds = 0;
            for (int turn = 0; turn < 4096; turn++) {
                int ahead = rounds;
                for (int j = 1; j < elements; j++) {
                    for (int i = 0; i < j; i++) {
                        long next = pressedBy(now, i, j);
                        rounds += next == now ? 0 : 1;
                        now = next;
                    }
                }
                if (rounds == ahead) {
                    break;
                }
            }
            return rounds;
        }
    }

    /** The grid: its places are cells, x plus width times y. */
    private static final class Grid extends Ground {
        private int width = 4;
        private int height = 4;

        private int width() {
            return width;
        }

        private int height() {
            return height;
        }

        private void reshape(int w, int h) {
            width = w;
            height = h;
        }

        int places() {
            return width * height;
        }

        int measure(int what, long some) {
            return what == BY_BORDER ? Long.bitCount(borderOf(some)) : edgesOf(some);
        }

        int keyBy(int order, int place) {
            if (width <= 0) {
                return place;
            }
            int x = place % width;
            int y = place / width;
            switch (order) {
                case 1: return (x + y) * MOST_SIDE + x;
                case 2: return Math.max(x, y) * MOST_PLACES + place;
                default: return place;
            }
        }

        private long borderOf(long cells) {
            long left = (cells & ~column(0)) >>> 1;
            long right = (cells & ~column(width - 1)) << 1;
            return (left | right | cells >>> width | cells << width) & all() & ~cells;
        }

        private int edgesOf(long cells) {
            long across = (cells ^ cells >>> 1) & ~column(width - 1) & all();
            long down = (cells ^ cells >>> width) & all() >>> width;
            return Long.bitCount(across) + Long.bitCount(down);
        }

        private long column(int x) {
            long cells = 0;
            for (int y = 0; y < height; y++) {
                cells |= 1L << (x + width * y);
            }
            return cells;
        }
    }

    /** A cascade: its row, from the greatest step on, and what its choices below come to. */
    private static final class Cascade {
        private final int[] row = new int[MOST_STEPS];
        private int many;
        private long bounds;

        private int many() {
            return many;
        }

        private long bounds() {
            return bounds;
        }

        private int at(int i) {
            return i >= 0 && i < many && i < row.length ? row[i] : NOT;
        }

        private void lay(int m, int k) {
            many = 0;
            bounds = 0;
            long left = m;
            for (int i = k; i > 0 && left > 0 && many < row.length; i--) {
                int top = greatestWithin(left, i);
                row[many] = top;
                many++;
                left -= choices(top, i);
                bounds += choices(top, i - 1);
            }
        }

        /** The greatest a by which the choices of i among a are no more than what is left. */
        private static int greatestWithin(long left, int i) {
            long fits = i;
            long tooMany = left + i;
            for (int halving = 0; halving < 64 && tooMany - fits > 1; halving++) {
                long middle = (fits + tooMany) / 2;
                if (choices(middle, i) <= left) {
                    fits = middle;
                } else {
                    tooMany = middle;
                }
            }
            return (int) fits;
        }
    }

    /** Runs acts: the bodies of a family's kind and of those above it, with a trace of them. */
    private static final class Acts {
        private final int[] begun = new int[MOST_TRACE];
        private int many;
        private int kind;
        private int number;
        private int figure;

        private int run(Family family, int itsNumber, int act, int x) {
            many = 0;
            kind = family.kind;
            figure = family.figure;
            number = itsNumber;
            switch (act) {
                case 0: return grows(kind, x);
                case 1: return turns(kind, x);
                default: return tells(kind, x);
            }
        }

        private int begunAt(int i) {
            return i >= 0 && i < many && i < begun.length ? begun[i] : NOT;
        }

        private void begin(int body) {
            if (many >= 0 && many < begun.length) {
                begun[many] = body;
                many++;
            }
        }

        // In each of these the kind 'from' is where the body is looked for: a body's "super" starts
        // at the kind above its own, every other call at the family's own kind.

        private int grows(int from, int x) {
            switch (from) {
                case MIRRORED:
                    begin(41);
                    return grows(TURNED, x) * 3;
                case TURNED:
                    begin(30);
                    return -grows(FAMILY, x);
                default:
                    begin(10);
                    return x + number;
            }
        }

        private int turns(int from, int x) {
            switch (from) {
                case OTHERS:
                    begin(20);
                    return turns(FAMILY, x) ^ 3;
                case LEVEL:
                case BELOW:
                    begin(50);
                    return turns(FAMILY, x) + grows(kind, 2);
                default:
                    begin(11);
                    return grows(kind, x) * 2;
            }
        }

        private int tells(int from, int x) {
            switch (from) {
                case MIRRORED:
                    begin(40);
                    return tells(TURNED, x + 1);
                case BELOW:
                    begin(60);
                    return tells(LEVEL, x) ^ figure;
                default:
                    begin(12);
                    return turns(kind, x) - figure;
            }
        }
    }

    /** The latest changes, and behind them those that were undone and can be done again. */
    private static final class Changes {
        private final int[] numbers = new int[MOST_CHANGES];
        private final Family[] before = new Family[MOST_CHANGES];
        private final Family[] after = new Family[MOST_CHANGES];
        private int done;
        private int held;

        private int undoable() {
            return done;
        }

        private int redoable() {
            return held - done;
        }

        private void forget() {
            done = 0;
            held = 0;
        }

        private void note(int number, Family was, Family becomes) {
            if (done >= MOST_CHANGES) {
                dropEldest();
            }
            if (done < 0 || done >= numbers.length || done >= before.length || done >= after.length) {
                return;
            }
            numbers[done] = number;
            before[done] = was;
            after[done] = becomes;
            done++;
            held = done;
        }

        private void dropEldest() {
            for (int i = 1; i < numbers.length && i < before.length && i < after.length; i++) {
                numbers[i - 1] = numbers[i];
                before[i - 1] = before[i];
                after[i - 1] = after[i];
            }
            done = MOST_CHANGES - 1;
        }

        private boolean stepBack(Families families) {
            if (done <= 0 || done > numbers.length || done > before.length) {
                return false;
            }
            done--;
            families.replace(numbers[done], before[done]);
            return true;
        }

        private boolean stepOn(Families families) {
            if (done < 0 || done >= held || done >= numbers.length || done >= after.length) {
                return false;
            }
            families.replace(numbers[done], after[done]);
            done++;
            return true;
        }
    }

    /** Bytes in a row, up to a number that is told once. */
    private static final class Text {
        private final byte[] bytes;
        private int length;

        private Text(int most) {
            bytes = new byte[most > 0 ? most : 0];
        }

        private int length() {
            return length;
        }

        private int at(int i) {
            return i >= 0 && i < length && i < bytes.length ? bytes[i] : NOT;
        }

        private boolean append(int letter) {
            if (length < 0 || length >= bytes.length) {
                return false;
            }
            bytes[length] = (byte) letter;
            length++;
            return true;
        }

        private void clear() {
            length = 0;
        }
    }

    /** A shelf: missing, or places for families of a sort; a place without one is null. */
    private static final class Shelf {
        private final Family[] row = new Family[MOST_SHELF_PLACES];
        private final Family[] coming = new Family[MOST_SHELF_PLACES];
        private boolean there;
        private int sort;
        private int places;

        private boolean isMissing() {
            return !there;
        }

        private int places() {
            return places;
        }

        private void remove() {
            there = false;
            places = 0;
        }

        private void lay(int newSort, int n) {
            there = true;
            sort = newSort;
            places = n;
            for (int i = 0; i < row.length; i++) {
                row[i] = null;
            }
        }

        private boolean hasPlaces(int i, int n) {
            return n >= 0 && i >= 0 && n <= places && i <= places - n;
        }

        private Family at(int i) {
            return i >= 0 && i < places && i < row.length ? row[i] : null;
        }

        private boolean mayHold(Family family) {
            return family == null || sort == 0 || family.isUnder(sort == 1 ? LEVEL : TURNED);
        }

        /** Whether the family, or the emptiness, came to the place. */
        private boolean place(int i, Family family) {
            if (i < 0 || i >= places || i >= row.length || !mayHold(family)) {
                return false;
            }
            row[i] = family;
            return true;
        }

        private void becomeLike(Shelf other) {
            lay(other.sort, other.places);
            for (int i = 0; i < row.length; i++) {
                row[i] = other.at(i);
            }
        }

        /** Takes n places of a shelf as they were, even of its own; whether all of them came. */
        private boolean placeAll(Shelf from, int i, int j, int n) {
            for (int p = 0; p < n && p < coming.length; p++) {
                coming[p] = from.at(i + p);
            }
            for (int p = 0; p < n && p < coming.length; p++) {
                if (!place(j + p, coming[p])) {
                    return false;
                }
            }
            return true;
        }
    }

    /** A list: missing, or numbers of a sort. */
    private static final class Numbers {
        private final long[] row = new long[MOST_NUMBERS];
        private boolean there;
        private int sort;
        private int many;

        private boolean isMissing() {
            return !there;
        }

        private void remove() {
            there = false;
            many = 0;
        }

        private void lay(int newSort, int n) {
            there = true;
            sort = newSort;
            many = n;
            for (int i = 0; i < row.length; i++) {
                row[i] = 0;
            }
        }

        private boolean hasPlace(int i) {
            return i >= 0 && i < many && i < row.length;
        }

        private long at(int i) {
            return i >= 0 && i < many && i < row.length ? row[i] : 0;
        }

        private boolean place(int i, long v) {
            if (i < 0 || i >= many || i >= row.length) {
                return false;
            }
            row[i] = sort == INTS ? (int) v : v;
            return true;
        }
    }
}
