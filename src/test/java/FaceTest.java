import java.lang.reflect.Constructor;
import java.lang.reflect.Field;
import java.lang.reflect.Member;
import java.lang.reflect.Method;
import java.lang.reflect.Modifier;
import java.nio.file.Files;
import java.nio.file.Path;
import java.util.Set;
import java.util.TreeSet;
import java.util.regex.Matcher;
import java.util.regex.Pattern;

/** The face is the document's and no more, and the source keeps to some rules of LANGUAGE.md. */
public final class FaceTest {
    private static final Path DOCUMENT = Path.of("../shared/DOC.md");
    private static final Path SOURCE = Path.of("src/main/java/LeastShadows.java");

    public static void main(String[] args) throws Exception {
        calls();
        constants();
        members();
        headings();
        source();
        methodsAreShort();
        Due.end();
    }

    private static Set<String> callsOfDocument() throws Exception {
        Set<String> calls = new TreeSet<>();
        String text = Files.readString(DOCUMENT);
        String face = text.substring(text.indexOf("```java"), text.indexOf("## Terms"));
        Matcher call = Pattern.compile("public (int|long) (\\w+)\\(([^)]*)\\);").matcher(face);
        while (call.find()) {
            calls.add(call.group(1) + " " + call.group(2) + " " + call.group(3).replaceAll(" \\w+(?=,|$)", ""));
        }
        return calls;
    }

    private static void calls() throws Exception {
        Set<String> own = new TreeSet<>();
        for (Method method : LeastShadows.class.getDeclaredMethods()) {
            if (Modifier.isPublic(method.getModifiers())) {
                StringBuilder types = new StringBuilder();
                for (Class<?> type : method.getParameterTypes()) {
                    types.append(types.length() == 0 ? "" : ", ").append(type.getName());
                }
                own.add(method.getReturnType() + " " + method.getName() + " " + types);
            }
        }
        Set<String> due = callsOfDocument();
        Due.is("calls of the document", due.size(), 51);
        if (!own.equals(due)) {
            System.out.println("own: " + own + "\ndue: " + due);
        }
        Due.holds("the calls are the document's", own.equals(due));
    }

    private static void constants() throws Exception {
        long[] got = {LeastShadows.BAD, LeastShadows.NOT, LeastShadows.FULL, LeastShadows.STATE, LeastShadows.OVER, LeastShadows.VOID};
        Due.are("constants", got, -1, -2, -3, -5, -6, Long.MIN_VALUE);
        int open = 0;
        for (Field field : LeastShadows.class.getDeclaredFields()) {
            open += Modifier.isPublic(field.getModifiers()) ? 1 : 0;
            Due.holds(field.getName() + " is final", Modifier.isFinal(field.getModifiers()) || !Modifier.isStatic(field.getModifiers()));
        }
        Due.is("public fields", open, 6);
    }

    private static void isOpenOrPrivate(Member member) {
        int modifiers = member.getModifiers();
        Due.holds(member.getName() + " is public or private", Modifier.isPublic(modifiers) || Modifier.isPrivate(modifiers));
    }

    private static void members() {
        Due.holds("public and final", Modifier.isPublic(LeastShadows.class.getModifiers()) && Modifier.isFinal(LeastShadows.class.getModifiers()));
        Set<String> names = new TreeSet<>();
        for (Method method : LeastShadows.class.getDeclaredMethods()) {
            isOpenOrPrivate(method);
            if (Modifier.isPublic(method.getModifiers())) {
                names.add(method.getName());
            }
        }
        for (Field field : LeastShadows.class.getDeclaredFields()) {
            isOpenOrPrivate(field);
        }
        for (Constructor<?> constructor : LeastShadows.class.getDeclaredConstructors()) {
            isOpenOrPrivate(constructor);
        }
        Class<?>[] inside = LeastShadows.class.getDeclaredClasses();
        Due.holds("some twelve classes", inside.length <= 12);
        for (Class<?> own : inside) {
            Due.holds(own + " is static and not public", Modifier.isStatic(own.getModifiers()) && !Modifier.isPublic(own.getModifiers()));
            int fields = 0;
            for (Field field : own.getDeclaredFields()) {
                fields += Modifier.isStatic(field.getModifiers()) ? 0 : 1;
            }
            Due.holds(own + " has some twenty fields at most", fields <= 20);
            for (Method method : own.getDeclaredMethods()) {
                Due.holds(method + " bears a name of its own", !names.contains(method.getName()));
                Due.holds(method + " has seven parameters at most", method.getParameterCount() <= 7);
            }
        }
        for (Method method : LeastShadows.class.getDeclaredMethods()) {
            Due.holds(method + " bears a name of its own", Modifier.isPublic(method.getModifiers()) || !names.contains(method.getName()));
        }
    }

    /** What the interface says ahead of its calls: the comment, and behind it just these calls. */
    private static void headings() throws Exception {
        String[] parts = Files.readString(SOURCE).split("(?m)^    // ---- ");
        Matcher told = Pattern.compile("(?m)^Ahead of the calls (.*) the interface says: ---- (.*)\\.$").matcher(Files.readString(DOCUMENT));
        int many = 0;
        while (told.find()) {
            many++;
            String part = many < parts.length ? parts[many] : "";
            Due.holds("the heading '" + told.group(2) + "' stands there", part.startsWith(told.group(2) + "\n"));
            StringBuilder calls = new StringBuilder();
            Matcher call = Pattern.compile("(?m)^    public \\w+ (\\w+)\\(").matcher(part);
            while (call.find()) {
                calls.append(calls.length() == 0 ? "`" : ", `").append(call.group(1)).append('`');
            }
            Due.holds(calls + " stand behind '" + told.group(2) + "'", calls.toString().equals(told.group(1)));
        }
        Due.is("headings", many, 11);
    }

    private static void source() throws Exception {
        String text = Files.readString(SOURCE).replaceAll("(?s)/\\*.*?\\*/", "").replaceAll("//[^\n]*", "");
        String[] banned = {"import ", "package ", "->", "::", "@", "catch", "finally", "synchronized", "assert ", "throw ",
            "protected ", "native ", "volatile ", "System.out", "Exact("};
        for (String word : banned) {
            Due.holds("no " + word, !text.contains(word));
        }
        Matcher names = Pattern.compile("\\b(Math|Integer|Long|System|Arrays|String|Float|Double|Object)\\.(\\w+)").matcher(text);
        Set<String> allowed = Set.of("Math.max", "Math.min", "Integer.bitCount", "Long.bitCount", "Long.MIN_VALUE");
        while (names.find()) {
            Due.holds(names.group() + " is allowed", allowed.contains(names.group()));
        }
        for (char letter : text.toCharArray()) {
            if (letter > 127) {
                Due.holds("signs are 1 to 127", false);
            }
        }
    }

    /** A method's end is the brace that stands under its beginning. */
    private static void methodsAreShort() throws Exception {
        String[] lines = Files.readString(SOURCE).split("\n");
        Pattern begins = Pattern.compile("(    |        )(?! |return|if|for|while|switch).*\\) \\{");
        int many = 0;
        for (int i = 0; i < lines.length; i++) {
            Matcher begin = begins.matcher(lines[i]);
            if (!begin.matches()) {
                continue;
            }
            int end = i;
            while (end < lines.length && !lines[end].equals(begin.group(1) + "}")) {
                end++;
            }
            many++;
            Due.holds("some sixty lines at most: " + lines[i].trim(), end - i <= 60);
        }
        Due.holds("methods were found", many > 120);
    }
}
