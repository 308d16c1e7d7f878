import java.nio.charset.StandardCharsets;
import java.nio.file.Path;

/** Runs a command of the shell. */
final class Shell {
    private Shell() { }

    /** How it ended; what it printed is printed if it failed. */
    static int run(Path directory, String command) throws Exception {
        StringBuilder printed = new StringBuilder();
        int end = run(directory, command, printed);
        if (end != 0) {
            System.out.println(command + " printed:\n" + printed);
        }
        return end;
    }

    static int run(Path directory, String command, StringBuilder printed) throws Exception {
        Process process = new ProcessBuilder("sh", "-c", command).directory(directory.toFile()).redirectErrorStream(true).start();
        process.getOutputStream().close();
        printed.append(new String(process.getInputStream().readAllBytes(), StandardCharsets.UTF_8));
        return process.waitFor();
    }
}
