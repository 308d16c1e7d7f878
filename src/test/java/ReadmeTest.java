import java.io.IOException;
import java.nio.file.Files;
import java.nio.file.Path;
import java.util.Set;
import java.util.TreeSet;
import java.util.regex.Matcher;
import java.util.regex.Pattern;
import java.util.stream.Stream;

/** What README.md shows is as it says: its lines of code compile and answer so, its commands run. */
public final class ReadmeTest {
    private static final Path README = Path.of("README.md");
    private static final Path TESTS = Path.of("src/test/java");
    /** Code, and what it answers: "x.wipe(); // 3: so many". */
    private static final Pattern TOLD = Pattern.compile("\\s*(?:int (\\w+) = )?(.*);\\s*// (-?\\d+):.*");
    private static final Pattern MADE = Pattern.compile("LeastShadows x = new LeastShadows\\(\\);\\s*//.*");

    public static void main(String[] args) throws Exception {
        String text = Files.readString(README);
        Path out = Files.createTempDirectory("readme");
        try {
            code(text, out);
            commands(text, out);
        } finally {
            remove(out);
        }
        names(text);
        Due.end();
    }

    // ---- the lines of code

    /** The lines of all its blocks as one program that prints each answer that is not as told. */
    private static String program(String text) {
        StringBuilder program = new StringBuilder("public final class Lines {\n    static int wrong = 0;\n");
        program.append("    static void due(String line, long got, long want) {\n        if (got != want) {\n");
        program.append("            wrong++;\n            System.out.println(line + \" answered \" + got);\n        }\n    }\n");
        program.append("    public static void main(String[] args) {\n");
        Matcher block = Pattern.compile("(?s)```java\n(.*?)```").matcher(text);
        int lines = 0;
        while (block.find()) {
            for (String line : block.group(1).split("\n")) {
                Matcher told = TOLD.matcher(line);
                if (told.matches()) {
                    lines++;
                    program.append(checked(told));
                } else {
                    Due.holds("README's '" + line + "' tells what it answers", MADE.matcher(line).matches());
                    program.append("        ").append(line).append('\n');
                }
            }
        }
        Due.holds("README shows lines of code", lines >= 50);
        return program.append("        System.exit(wrong == 0 ? 0 : 1);\n    }\n}\n").toString();
    }

    private static String checked(Matcher told) {
        String call = told.group(2);
        String quoted = call.replace("'", "\\'");
        String due = "        due(\"" + quoted + "\", %s, " + told.group(3) + "L);\n";
        if (told.group(1) == null) {
            return due.replace("%s", call);
        }
        return "        int " + told.group(1) + " = " + call + ";\n" + due.replace("%s", told.group(1));
    }

    private static void code(String text, Path out) throws Exception {
        Path lines = out.resolve("Lines.java");
        Files.writeString(lines, program(text));
        Due.is("README's lines compile", Shell.run(Path.of("."), "javac -d " + out + "/lines src/main/java/LeastShadows.java " + lines), 0);
        Due.is("README's lines answer as told", Shell.run(Path.of("."), "java -cp " + out + "/lines Lines"), 0);
        Set<String> shown = new TreeSet<>();
        Matcher call = Pattern.compile("x\\.(\\w+)\\(").matcher(text);
        while (call.find()) {
            shown.add(call.group(1));
        }
        for (String name : Story.allNames()) {
            Due.holds("README shows " + name + "()", shown.contains(name));
        }
    }

    // ---- the commands

    private static void commands(String text, Path out) throws Exception {
        String run = text.substring(text.indexOf("## How to run the tests"));
        Matcher command = Pattern.compile("(?m)^    (\\S.*)$").matcher(run);
        int many = 0;
        while (command.find()) {
            many++;
            if (command.group(1).equals(".ci/run")) {
                // this very test runs in it; CiTest tries it on small projects
                Due.holds(".ci/run can be run", Files.isExecutable(Path.of(".ci/run")));
            } else {
                String elsewhere = command.group(1).replace("/tmp/out", out + "/single");
                Due.is("README's '" + command.group(1) + "'", Shell.run(Path.of("."), elsewhere), 0);
            }
        }
        Due.is("README's commands", many, 2);
        Due.holds("README's command is the first", run.contains("\n\n    .ci/run\n"));
    }

    // ---- the names

    /** README names each file of the tests, and no other. */
    private static void names(String text) throws Exception {
        Set<String> files = new TreeSet<>();
        try (Stream<Path> found = Files.list(TESTS)) {
            found.forEach(file -> files.add(file.getFileName().toString().replace(".java", "")));
        }
        Set<String> named = new TreeSet<>();
        Matcher name = Pattern.compile("`([A-Z]\\w*(?:Test|Edges))`").matcher(text);
        while (name.find()) {
            named.add(name.group(1));
            Due.holds("README's " + name.group(1) + " is there", files.contains(name.group(1)));
        }
        for (String file : files) {
            boolean isTest = file.endsWith("Test") || file.endsWith("Edges");
            Due.holds("README names " + file, !isTest || named.contains(file));
        }
        for (String path : new String[] {"src/main/java/LeastShadows.java", "../shared/DOC.md", "../shared/LANGUAGE.md", "../shared/tests"}) {
            Due.holds("README's " + path + " is there", text.contains(path) && Files.exists(Path.of(path)));
        }
    }

    static void remove(Path directory) throws IOException {
        try (Stream<Path> all = Files.walk(directory)) {
            for (Path path : all.sorted((a, b) -> b.compareTo(a)).toList()) {
                Files.delete(path);
            }
        }
    }
}
