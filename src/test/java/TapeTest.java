/** Promises 31 to 35: the tape, the paper. */
public final class TapeTest {
    public static void main(String[] args) {
        feedAndWipe();
        read();
        faults();
        write();
        Due.end();
    }

    private static int readText(LeastShadows x, String text) {
        for (char letter : text.toCharArray()) {
            x.feed(letter);
        }
        return x.read();
    }

    private static void feedAndWipe() {
        LeastShadows x = new LeastShadows();
        Due.is("wipe nothing", x.wipe(), 0);
        long[] bad = {x.feed(31), x.feed(127), x.feed(-1), x.feed(256 + 97)};
        Due.are("bad feed()", bad, -1, -1, -1, -1);
        for (int i = 1; i <= 80; i++) {
            Due.is("feed", x.feed(i % 2 == 0 ? 32 : 126), i);
        }
        Due.is("FULL", x.feed(97), -3);
        Due.is("BAD ahead of FULL", x.feed(31), -1);
        Due.is("80 bytes", x.count(4), 80);
        Due.is("wipe", x.wipe(), 80);
        Due.is("no bytes", x.count(4), 0);
        Due.is("feed again", x.feed(97), 1);
    }

    private static void read() {
        LeastShadows x = new LeastShadows();
        Due.is("a family", readText(x, "ab,cd,abd,ab"), 0);
        Due.is("its sets", x.sets(0, 0), 6152);
        Due.is("the tape is empty", x.count(4), 0);
        Due.is("0", readText(x, "0"), 1);
        Due.is("the empty set", x.sets(1, 0), 1);
        Due.is("0 again", readText(x, "0,abcd,0"), 2);
        Due.is("both", x.sets(2, 0), 1 | 1 << 15);
        x.set(0, 0, 1);
        Due.is("a fault", readText(x, "e"), -100);
        Due.is("changes stay by a fault", x.count(2), 1);
        Due.is("a family", readText(x, "a"), 3);
        Due.is("no changes are left", x.count(2), 0);
        for (int i = 4; i < 8; i++) {
            readText(x, "b");
        }
        x.set(0, 0, 2);
        Due.is("FULL", readText(x, "c"), -3);
        Due.is("the tape is empty by FULL", x.count(4), 0);
        Due.is("changes stay by FULL", x.count(2), 1);
        Due.is("a fault ahead of FULL", readText(x, "c,"), -102);
        x.cube(6);
        Due.is("all letters", readText(x, "abcdef"), 0);
        Due.is("abcdef", x.sets(0, 0), Long.MIN_VALUE);
    }

    private static void faults() {
        LeastShadows x = new LeastShadows();
        Due.is("an empty tape", x.read(), -100);
        String[] texts = {",", "a,", "aa", "ba", "abcde", "a0", "0a", "00", "a,,b", "a b", "A", "`", "ab,c;d", "0,", "1", "abcd,abcd,x"};
        int[] at = {0, 2, 1, 1, 4, 1, 1, 1, 2, 1, 0, 0, 4, 2, 0, 10};
        for (int i = 0; i < texts.length; i++) {
            Due.is("fault of " + texts[i], readText(x, texts[i]), -100 - at[i]);
            Due.is("the tape is empty behind " + texts[i], x.count(4), 0);
        }
        Due.is("nothing came", x.count(0), 0);
        x.cube(1);
        Due.is("b of one element", readText(x, "a,b"), -102);
        Due.is("0,a of one element", readText(x, "0,a"), 0);
        for (int i = 0; i < 80; i++) {
            x.feed(i % 2 == 0 ? 'a' : ',');
        }
        Due.is("a full tape that ends too early", x.read(), -180);
    }

    private static void onPaper(LeastShadows x, String text) {
        for (int i = 0; i < text.length(); i++) {
            Due.is("byte " + i + " of " + text, x.paper(i), text.charAt(i));
        }
        Due.is("behind " + text, x.paper(text.length()), -2);
        Due.is("ahead of " + text, x.paper(-1), -2);
        Due.is("bytes of " + text, x.count(5), text.length());
    }

    private static void write() {
        LeastShadows x = new LeastShadows();
        long[] bad = {x.write(0), x.write(-1)};
        Due.are("bad write()", bad, -1, -1);
        readText(x, "abd,cd,0,ab");
        Due.is("written", x.write(0), 11);
        onPaper(x, "0,ab,abd,cd");
        Due.is("a refused one", x.write(1), -1);
        onPaper(x, "0,ab,abd,cd");
        x.set(0, 0, 2);
        Due.is("by its kind", x.write(0), 12);
        onPaper(x, "ab,c,cd,abcd");
        x.come(0);
        Due.is("of no sets", x.write(1), 0);
        onPaper(x, "");
        x.cube(6);
        x.come(-1);
        Due.is("all 64", x.write(0), 256);
        Due.is("its last byte", x.paper(255), 'f');
        Due.is("none behind", x.paper(256), -2);
    }
}
