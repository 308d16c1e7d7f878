/** The tape and the paper: the sentences of the terms, and promises 31 to 35. */
final class TapeEdges {
    private static final int LEAST_INT = Integer.MIN_VALUE, GREATEST_INT = Integer.MAX_VALUE;

    private TapeEdges() { }

    static void test() {
        Sentences.of("Terms", "THE TAPE holds 0 .. 80 bytes 32 .. 126.", TapeEdges::bytes);
        Sentences.of("Terms", "As a FAMILY: one or more SETS, with , between:", TapeEdges::oneOrMore);
        Sentences.of("Terms", "0 (the one without ELEMENTS), or letters of ELEMENTS of THE CUBE (a is 0), one or more, each greater than that ahead of it;", TapeEdges::letters);
        Sentences.of("Terms", "a SET may come again (it is one).", TapeEdges::again);
        Sentences.of("Terms", "FAULT: the first byte with which no such text goes on, read from the left,", TapeEdges::faults);
        Sentences.of("Terms", "or the length, if it ends too early.", TapeEdges::endsTooEarly);
        Sentences.of("Terms", "a LETTER beyond n is one.", TapeEdges::letterBeyond);
        Sentences.of("Terms", "read() looks for a FAULT ahead of FULL;", TapeEdges::faultAheadOfFull);
        Sentences.of("Terms", "THE TAPE is empty behind each call that reads it, by a FAULT and by FULL, too.", TapeEdges::emptyBehind);
        Sentences.of("Terms", "WRITTEN: SETS of a FAMILY, by numbers, likewise; of none nothing.", TapeEdges::written);
        Sentences.of("Terms", "THE PAPER holds the latest one (nothing at first).", TapeEdges::latest);
        promises();
    }

    private static void promises() {
        Sentences.of("Promise 31", "A byte comes behind THE TAPE's: how many it has.", TapeEdges::feed);
        Sentences.of("Promise 31", "BAD;", TapeEdges::feedBad);
        Sentences.of("Promise 31", "FULL: it has 80.", TapeEdges::feedFull);
        Sentences.of("Promise 32", "THE TAPE is empty: how many it had.", TapeEdges::wipe);
        Sentences.of("Promise 33", "THE TAPE is a FAMILY: its number.", TapeEdges::read);
        Sentences.of("Promise 33", "-100 less the FAULT;", TapeEdges::readFault);
        Sentences.of("Promise 33", "FULL: there are 8.", TapeEdges::readFull);
        Sentences.of("Promise 34", "A FAMILY is WRITTEN onto THE PAPER: how many bytes.", TapeEdges::write);
        Sentences.of("Promise 34", "BAD.", TapeEdges::writeBad);
        Sentences.of("Promise 35", "Byte i of THE PAPER.", TapeEdges::paper);
        Sentences.of("Promise 35", "NOT: none such.", TapeEdges::paperNot);
    }

    private static void told(int n, String text, long want) {
        LeastShadows x = Made.cube(n);
        Due.is("'" + text + "' of n " + n, Made.read(x, text), 0);
        Due.is("'" + text + "' tells", x.sets(0, 1), want);
    }

    private static void fault(int n, String text, int at) {
        LeastShadows x = Made.cube(n);
        Due.is("fault of '" + text + "', n " + n, Made.read(x, text), -100 - at);
        Due.is("nothing came", x.count(0), 0);
        Due.is("the tape is empty", x.count(4), 0);
    }

    // ---- terms

    private static void bytes() {
        LeastShadows x = new LeastShadows();
        Due.is("none at first", x.count(4), 0);
        int many = 0;
        for (int letter = 32; letter <= 126; letter++) {
            if (many == 80) {
                Due.is("80 are all", x.feed(letter), -3);
                x.wipe();
                many = 0;
            }
            many++;
            Due.is("byte " + letter, x.feed(letter), many);
        }
        Due.is("31 is none", x.feed(31), -1);
        Due.is("127 is none", x.feed(127), -1);
        Due.is("they stand", x.count(4), many);
    }

    private static void oneOrMore() {
        told(4, "0", 1);
        told(4, "abcd", 1L << 15);
        told(4, "a,0", 3);
        told(4, "b,a", 6);
        told(1, "0,a", 3);
        fault(4, "", 0);
        fault(4, ",", 0);
        fault(4, "a,", 2);
        fault(4, ",a", 0);
        fault(4, "a,,b", 2);
        fault(4, "a b", 1);
        fault(4, "a;b", 1);
        told(4, "ab,".repeat(26) + "cd", 1L << 3 | 1L << 12);
        told(6, "abcdef,".repeat(11) + "a,b", Long.MIN_VALUE | 6);
    }

    private static void letters() {
        for (int n = 1; n <= 6; n++) {
            told(n, "abcdef".substring(0, n), Made.top(n));
            for (int e = 0; e < n; e++) {
                told(n, "abcdef".substring(e, e + 1), 1L << (1 << e));
            }
        }
        for (int n = 1; n <= 6; n++) {
            for (int first = 0; first < n; first++) {
                for (int second = 0; second < n; second++) {
                    pair(n, first, second);
                }
                fault(n, "0" + "abcdef".charAt(first), 1);
                fault(n, "abcdef".charAt(first) + "0", 1);
            }
        }
        told(6, "af,bcf", 1L << 33 | 1L << 38);
        fault(4, "aa", 1);
        fault(4, "ba", 1);
        fault(4, "acb", 2);
        fault(4, "abdd", 3);
        fault(4, "00", 1);
        fault(4, "0a", 1);
        fault(4, "a0", 1);
        fault(4, "A", 0);
    }

    private static void pair(int n, int first, int second) {
        String text = "abcdef".substring(first, first + 1) + "abcdef".charAt(second);
        if (first < second) {
            told(n, text, 1L << (1 << first | 1 << second));
        } else {
            fault(n, text, 1);
        }
    }

    private static void again() {
        told(4, "a,a", 2);
        told(4, "0,0,0", 1);
        told(4, "ab,c,ab", 1L << 3 | 1L << 4);
        LeastShadows x = new LeastShadows();
        Made.read(x, "b,b,b");
        Due.is("it is one", x.of(0, 2), 1);
    }

    private static void faults() {
        String[] texts = {" ", "~", "`", "1", "-", "a ", "ab,c;d", "ab,cd,ba", "a,b,c,d,e", "0,00", "0,0,a0", "abcd0", "dc,,"};
        int[] at = {0, 0, 0, 0, 0, 1, 4, 7, 8, 3, 5, 4, 1};
        for (int i = 0; i < texts.length; i++) {
            fault(4, texts[i], at[i]);
        }
        fault(4, "b".repeat(80), 1);
        fault(4, "a,".repeat(39) + "a ", 79);
        fault(4, "a,".repeat(39) + " ,", 78);
        fault(4, "x,", 0);
    }

    private static void endsTooEarly() {
        fault(4, "", 0);
        fault(4, "0,", 2);
        fault(4, "abcd,", 5);
        fault(4, "a,".repeat(40), 80);
        fault(1, "a,a,", 4);
    }

    private static void letterBeyond() {
        for (int n = 1; n <= 6; n++) {
            String all = "abcdefg";
            fault(n, all.substring(n, n + 1), 0);
            fault(n, all.substring(0, n + 1), n);
            fault(n, "a," + all.substring(n, n + 1), 2);
            told(n, all.substring(n - 1, n), 1L << (1 << (n - 1)));
        }
        fault(6, "{", 0);
        fault(6, "z", 0);
    }

    private static void faultAheadOfFull() {
        for (String text : new String[] {"", "e", "a,", "ba"}) {
            LeastShadows x = Made.fullOfFamilies();
            Due.holds("'" + text + "'", Made.read(x, text) <= -100);
        }
        LeastShadows x = Made.fullOfFamilies();
        Due.is("without a FAULT it is FULL", Made.read(x, "a"), -3);
    }

    private static void emptyBehind() {
        LeastShadows x = new LeastShadows();
        Made.read(x, "a,b");
        Due.is("behind a FAMILY", x.count(4), 0);
        Made.read(x, "a,b,");
        Due.is("behind a FAULT", x.count(4), 0);
        x = Made.fullOfFamilies();
        Made.read(x, "a,b");
        Due.is("behind FULL", x.count(4), 0);
        x.drop();
        Due.is("what stood there is gone", x.read(), -100);
        Due.is("it may be fed anew", Made.read(x, "cd"), 7);
        Due.is("as fed anew", x.sets(7, 1), 1L << 12);
        States.changes(States::rich, "read() of a FAMILY", LeastShadows::read, "families", "changes", "tape");
        States.changes(States::full, "read() by FULL", LeastShadows::read, "tape");
        States.changes(States::rich, "read() by a FAULT", y -> y.feed('?') + y.read(), "tape");
        States.changes(LeastShadows::new, "read() of nothing", LeastShadows::read);
    }

    private static void onPaper(int n, long told, String text) {
        LeastShadows x = Made.cube(n, told);
        Due.is("bytes of " + text, x.write(0), text.length());
        Due.is("on the paper", x.count(5), text.length());
        Due.holds(text + " is written", Made.paper(x).equals(text));
    }

    private static void written() {
        onPaper(4, 0, "");
        onPaper(4, 1, "0");
        onPaper(4, 1L << 15, "abcd");
        onPaper(4, 1 | 1L << 15, "0,abcd");
        onPaper(1, 3, "0,a");
        onPaper(2, 15, "0,a,b,ab");
        onPaper(4, 1L << 12 | 1L << 11 | 1L << 3, "ab,abd,cd");
        onPaper(6, Long.MIN_VALUE | 1L << 32, "f,abcdef");
        for (int n = 1; n <= 6; n++) {
            StringBuilder all = new StringBuilder("0");
            for (int s = 1; s < 1 << n; s++) {
                all.append(',');
                for (int e = 0; e < n; e++) {
                    all.append((s >> e & 1) != 0 ? "abcdef".substring(e, e + 1) : "");
                }
            }
            onPaper(n, Made.all(n), all.toString());
        }
        LeastShadows x = Made.kind(4, 2, 0, 1 | 1L << 15);
        x.write(0);
        Due.holds("by its KIND", Made.paper(x).equals("0,abcd"));
        x.set(0, 0, 3);
        x.set(0, 1, 2);
        Due.is("none by its KIND", x.write(0), 0);
    }

    private static void latest() {
        LeastShadows x = Made.families(1L << 15, 1, 0);
        Due.is("nothing at first", x.count(5), 0);
        Due.is("no byte at first", x.paper(0), -2);
        x.write(0);
        x.write(1);
        Due.holds("the latest alone", Made.paper(x).equals("0"));
        Due.is("nothing of the longer one behind", x.paper(1), -2);
        x.write(3);
        Due.holds("a refused one leaves it", Made.paper(x).equals("0"));
        x.drop();
        x.cube(2);
        Due.holds("it stays as it was WRITTEN", Made.paper(x).equals("0"));
        x = Made.families(1, 0);
        x.write(0);
        x.write(1);
        Due.is("nothing is the latest", x.count(5), 0);
    }

    // ---- promises

    private static void feed() {
        LeastShadows x = new LeastShadows();
        for (int i = 1; i <= 80; i++) {
            Due.is("how many", x.feed(i % 3 == 0 ? ',' : i % 3 == 1 ? 'c' : 'd'), i);
        }
        Due.is("in their order", x.read(), 0);
        Due.is("cd", x.sets(0, 1), 1L << 12);
        States.changes(States::rich, "feed(',')", y -> y.feed(','), "tape");
        States.changes(LeastShadows::new, "feed('a')", y -> y.feed('a'), "tape");
    }

    private static void feedBad() {
        for (int letter : new int[] {31, 127, 0, -1, 10, 128, 256 + 'a', 65536 + 'a', LEAST_INT, GREATEST_INT}) {
            States.refused("letter " + letter + ", also where it is FULL", x -> x.feed(letter), -1);
        }
    }

    private static void feedFull() {
        for (int letter : new int[] {32, 126, 'a', ','}) {
            States.refused(States::full, "letter " + letter, x -> x.feed(letter), -3);
        }
        LeastShadows x = new LeastShadows();
        Made.feed(x, "a".repeat(79));
        Due.is("the 80th", x.feed('b'), 80);
        Due.is("the 81st", x.feed('b'), -3);
        x.wipe();
        Due.is("behind wipe()", x.feed('b'), 1);
    }

    private static void wipe() {
        LeastShadows x = new LeastShadows();
        Due.is("none", x.wipe(), 0);
        x.feed('a');
        Due.is("one", x.wipe(), 1);
        Due.is("none again", x.wipe(), 0);
        Made.feed(x, "b".repeat(80));
        Due.is("80", x.wipe(), 80);
        Due.is("it is empty", x.read(), -100);
        States.changes(States::rich, "wipe()", LeastShadows::wipe, "tape");
        States.changes(States::emptied, "wipe() of nothing", LeastShadows::wipe);
    }

    private static void read() {
        LeastShadows x = Made.families(1);
        x.set(0, 0, 5);
        Due.is("its number", Made.read(x, "ab,0"), 1);
        long[] came = {x.of(1, 0), x.of(1, 1), x.sets(1, 1), x.count(0)};
        Due.are("KIND, FIGURE, TOLD, FAMILIES", came, 0, 0, 9, 2);
        for (int i = 2; i < 8; i++) {
            Due.is("its number", Made.read(x, "c"), i);
        }
        x = Made.cube(6);
        Made.read(x, "abcdef,0");
        Due.is("the greatest and the least", x.sets(0, 1), Long.MIN_VALUE | 1);
    }

    private static void readFault() {
        for (int at = 0; at < 79; at += 2) {
            Due.is("fault at " + at, Made.read(new LeastShadows(), "a,".repeat(at / 2) + "?"), -100 - at);
        }
        Due.is("at the end of 80", Made.read(new LeastShadows(), "a,".repeat(40)), -180);
        Due.is("of nothing", new LeastShadows().read(), -100);
    }

    private static void readFull() {
        LeastShadows x = Made.fullOfFamilies();
        Due.is("a ninth", Made.read(x, "a"), -3);
        Due.is("eight", x.count(0), 8);
        x.drop();
        Due.is("the tape that was FULL is gone", x.read(), -100);
        Due.is("an eighth", Made.read(x, "a"), 7);
        Due.is("no ninth", Made.read(x, "0"), -3);
    }

    private static void write() {
        LeastShadows x = Made.cube(6, -1, 0);
        Due.is("as many as there may be", x.write(0), 256);
        Due.is("none", x.write(1), 0);
        States.changes(States::rich, "write(1)", y -> y.write(1), "paper");
        States.changes(States::full, "write(0)", y -> y.write(0), "paper");
    }

    private static void writeBad() {
        for (int family : new int[] {-1, 8, LEAST_INT, GREATEST_INT}) {
            States.refused("family " + family, x -> x.write(family), -1);
        }
        States.refused(LeastShadows::new, "none", x -> x.write(0), -1);
        States.refused(States::rich, "the number behind the last", x -> x.write(2), -1);
    }

    private static void paper() {
        LeastShadows x = Made.cube(6, -1);
        x.write(0);
        long[] some = {x.paper(0), x.paper(1), x.paper(2), x.paper(255), x.paper(249)};
        Due.are("first and last bytes", some, '0', ',', 'a', 'f', ',');
        States.changesNothing("paper(0)", y -> y.paper(0));
    }

    private static void paperNot() {
        for (int i : new int[] {-1, 256, LEAST_INT, GREATEST_INT}) {
            States.refused("byte " + i, x -> x.paper(i), -2);
        }
        LeastShadows x = Made.cube(6, -1, 1L << 3);
        x.write(0);
        Due.is("behind 256", x.paper(256), -2);
        x.write(1);
        long[] two = {x.paper(-1), x.paper(0), x.paper(1), x.paper(2), x.paper(255)};
        Due.are("two bytes", two, -2, 'a', 'b', -2, -2);
    }
}
