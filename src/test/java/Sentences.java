import java.nio.file.Files;
import java.nio.file.Path;
import java.util.BitSet;
import java.util.LinkedHashMap;
import java.util.Map;

/**
 * Tests of one sentence each. A sentence is told by the part of the document where it stands
 * ("What it is", "Terms", "Promise 7") and by its own words, so that in the end each word of these parts can be
 * shown to have a test.
 */
final class Sentences {
    private static final Map<String, String> PARTS = partsOf(document());
    private static final Map<String, BitSet> TESTED = new LinkedHashMap<>();
    private static int many = 0;

    private Sentences() { }

    private static String document() {
        try {
            return Files.readString(Path.of("../shared/DOC.md"));
        } catch (java.io.IOException e) {
            throw new IllegalStateException("../shared/DOC.md cannot be read", e);
        }
    }

    private static Map<String, String> partsOf(String document) {
        Map<String, String> parts = new LinkedHashMap<>();
        for (String part : document.split("(?m)^## ")) {
            String title = part.lines().findFirst().orElse("").split(":")[0];
            if (title.equals("What it is") || title.equals("Terms") || title.startsWith("Promise ")) {
                parts.put(title, wordsOf(part));
            }
        }
        return parts;
    }

    /** The sentences of a part, without its title, its calls' forms and its headings (FaceTest has these). */
    private static String wordsOf(String part) {
        return part.replaceFirst("^.*\n", "")
            .replaceAll("(?m)^Ahead of the calls.*$", "")
            .replaceAll("```(text)?", "")
            .replaceAll("(?m)^`[^`]*`: ", "")
            .replaceAll("======== ([123] )?", "")
            .replace("SO THAT NOTHING IS READ TWO WAYS.", "")
            .replace("In doubt.", "")
            .replaceAll("\\s+", " ");
    }

    /** Runs the test of a sentence; the words must stand in the part, and the test must look at something. */
    static void of(String part, String words, Runnable test) {
        Due.about(part + ": " + words);
        mark(part, words);
        int looked = Due.looked();
        test.run();
        Due.holds("looks at something", Due.looked() > looked);
        Due.about("");
        many++;
    }

    private static void mark(String part, String words) {
        String text = PARTS.getOrDefault(part, "");
        int at = text.indexOf(words);
        Due.holds("stands in the document", at >= 0);
        BitSet tested = TESTED.computeIfAbsent(part, p -> new BitSet());
        for (; at >= 0; at = text.indexOf(words, at + 1)) {
            tested.set(at, at + words.length());
        }
    }

    /** Every word of the parts must stand in a sentence that was tested. */
    static void end() {
        for (Map.Entry<String, String> part : PARTS.entrySet()) {
            BitSet tested = TESTED.getOrDefault(part.getKey(), new BitSet());
            StringBuilder untested = new StringBuilder();
            for (int i = 0; i < part.getValue().length(); i++) {
                char letter = part.getValue().charAt(i);
                untested.append(!tested.get(i) && Character.isLetterOrDigit(letter) ? letter : ' ');
            }
            String left = untested.toString().replaceAll("\\s+", " ").trim();
            Due.holds(part.getKey() + " is tested" + (left.isEmpty() ? "" : " but for '" + left + "',") + " so it", left.isEmpty());
        }
        Due.is("parts", PARTS.size(), 54);
        System.out.println(many + " sentences have a test of their own");
    }
}
