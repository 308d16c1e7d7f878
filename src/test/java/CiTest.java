import java.nio.file.Files;
import java.nio.file.Path;
import java.util.ArrayList;
import java.util.List;
import java.util.concurrent.ExecutorService;
import java.util.concurrent.Executors;
import java.util.concurrent.Future;
import java.util.regex.Matcher;
import java.util.regex.Pattern;
import java.util.stream.Stream;

/** .ci/run runs all tests and fails if one fails: tried on small projects of like form, with a class of one call. */
public final class CiTest {
    private static final Path TESTS = Path.of("src/test/java");
    private static final String CLASS = "public final class NAME { public int count(int what) { return 4 + what - 1; } }\n";
    private static final String PASSES = "public final class NAME { public static void main(String[] a) {"
        + " System.out.println(\"NAME runs\"); System.exit(new LeastShadows().count(1) == 4 ? 0 : 1); } }\n";
    private static final String FAILS = PASSES.replace("== 4", "== 5");
    private static final String THROWS = PASSES.replace("System.exit(", "if (a.length == 0) throw new IllegalStateException(); System.exit(");
    private static final String NO_JAVA = "public final class NAME { no java }\n";

    /** A small project: what its class, its two tests and the two tests of shared are. */
    private record Project(String what, boolean passes, String main, String first, String last, String sharedFirst, String sharedLast) { }

    public static void main(String[] args) throws Exception {
        List<Project> projects = new ArrayList<>();
        projects.add(new Project("all pass", true, CLASS, PASSES, PASSES, PASSES, PASSES));
        projects.add(new Project("the first fails", false, CLASS, FAILS, PASSES, PASSES, PASSES));
        projects.add(new Project("the last fails", false, CLASS, PASSES, FAILS, PASSES, PASSES));
        projects.add(new Project("one throws", false, CLASS, PASSES, THROWS, PASSES, PASSES));
        projects.add(new Project("one does not compile", false, CLASS, PASSES, NO_JAVA, PASSES, PASSES));
        projects.add(new Project("the first of shared fails", false, CLASS, PASSES, PASSES, FAILS, PASSES));
        projects.add(new Project("the last of shared fails", false, CLASS, PASSES, PASSES, PASSES, FAILS));
        projects.add(new Project("one of shared does not compile", false, CLASS, PASSES, PASSES, NO_JAVA, PASSES));
        projects.add(new Project("shared has none", false, CLASS, PASSES, PASSES, null, null));
        projects.add(new Project("the class does not compile", false, NO_JAVA, PASSES, PASSES, PASSES, PASSES));
        ExecutorService four = Executors.newFixedThreadPool(4);
        List<Future<String>> faults = new ArrayList<>();
        for (Project project : projects) {
            faults.add(four.submit(() -> faultOf(project)));
        }
        for (int i = 0; i < projects.size(); i++) {
            String fault = faults.get(i).get();
            Due.holds(".ci/run where " + projects.get(i).what() + (fault.isEmpty() ? "" : " (" + fault + ")"), fault.isEmpty());
        }
        four.shutdown();
        allTestsAreRun();
        Due.end();
    }

    private static void write(Path directory, String name, String source) throws Exception {
        Files.createDirectories(directory);
        if (source != null) {
            Files.writeString(directory.resolve(name + ".java"), source.replace("NAME", name));
        }
    }

    /** Runs it from another directory; what is not as due, or nothing. */
    private static String faultOf(Project project) throws Exception {
        Path root = Files.createTempDirectory("ci");
        try {
            Path main = root.resolve("main");
            write(main.resolve("src/main/java"), "LeastShadows", project.main());
            write(main.resolve("src/test/java"), "FirstTest", project.first());
            write(main.resolve("src/test/java"), "LastTest", project.last());
            write(root.resolve("shared/tests"), "SharedFirst", project.sharedFirst());
            write(root.resolve("shared/tests"), "SharedLast", project.sharedLast());
            Files.createDirectories(main.resolve(".ci"));
            Files.copy(Path.of(".ci/run"), main.resolve(".ci/run"), java.nio.file.StandardCopyOption.COPY_ATTRIBUTES);
            StringBuilder printed = new StringBuilder();
            // by sh, as a directory of passing files may allow no programs
            int end = Shell.run(root, "sh " + main + "/.ci/run", printed);
            if (!project.passes()) {
                return end != 0 ? "" : "it passed: " + printed;
            }
            for (String name : new String[] {"FirstTest", "LastTest", "SharedFirst", "SharedLast"}) {
                if (printed.indexOf(name + " runs") < 0) {
                    return name + " did not run: " + printed;
                }
            }
            return end == 0 ? "" : "it failed: " + printed;
        } finally {
            ReadmeTest.remove(root);
        }
    }

    /** Each file with a main is one that .ci/run takes, and each row of sentences is called by one. */
    private static void allTestsAreRun() throws Exception {
        List<Path> files;
        try (Stream<Path> found = Files.list(TESTS)) {
            files = found.toList();
        }
        StringBuilder all = new StringBuilder();
        for (Path file : files) {
            all.append(Files.readString(file));
        }
        int tests = 0;
        for (Path file : files) {
            String name = file.getFileName().toString();
            String text = Files.readString(file);
            boolean isRun = name.endsWith("Test.java");
            tests += isRun ? 1 : 0;
            boolean hasMain = Pattern.compile("(?m)^    public static void main\\(").matcher(text).find();
            Due.holds(name + " has a main if it is run, and is run if it has one", hasMain == isRun);
            Due.holds(name + " tells what was wrong", !isRun || text.contains("Due.end();"));
            Matcher edges = Pattern.compile("(\\w+Edges)\\.java").matcher(name);
            Due.holds(name + " is called", !edges.matches() || all.indexOf(edges.group(1) + ".test();") >= 0);
        }
        Due.holds("tests", tests >= 15);
        Due.holds(".ci/run can be run", Files.isExecutable(Path.of(".ci/run")));
    }
}
