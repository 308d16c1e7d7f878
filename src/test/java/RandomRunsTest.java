import java.util.List;

/** Random runs of all calls together, compared with the plain model. */
public final class RandomRunsTest {
    /** Calls that build what the others ask for come more often. */
    private static int times(String call) {
        switch (call) {
            case "come": case "feed": case "keep": case "set": return 12;
            case "undo": case "redo": case "kept": case "shift": case "put": case "read": return 6;
            case "cube": case "grid": case "back": case "drop": return 1;
            default: return 3;
        }
    }

    public static void main(String[] args) {
        List<String> names = Story.allNames();
        String[] calls = new String[names.size()];
        for (int i = 0; i < calls.length; i++) {
            calls[i] = names.get(i) + "*" + times(names.get(i));
        }
        Story.runs(20261118, 400, calls);
        Due.end();
    }
}
