/** Collects answers that are not as due. A test that does not end is ended as failed. */
final class Due {
    private static final long MOST_MILLISECONDS = 120000;

    private static int wrong = 0;
    private static int looked = 0;
    private static volatile String about = "";

    static {
        Thread watch = new Thread(Due::failWhenLate);
        watch.setDaemon(true);
        watch.start();
    }

    private Due() { }

    private static void failWhenLate() {
        try {
            Thread.sleep(MOST_MILLISECONDS);
        } catch (InterruptedException e) {
            return;
        }
        System.out.println(about + "does not end");
        System.out.flush();
        Runtime.getRuntime().halt(1);
    }

    /** What the looks that follow are about, told with those that fail. */
    static void about(String what) {
        about = what.isEmpty() ? "" : what + " -- ";
    }

    static void is(String call, long got, long want) {
        looked++;
        if (got != want) {
            wrong++;
            System.out.println(about + call + " answered " + got + ", due is " + want);
        }
    }

    static void holds(String what, boolean so) {
        is(what, so ? 1 : 0, 1);
    }

    /** Tells a row of calls at once: the wanted answers in the order of the calls. */
    static void are(String call, long[] got, long... want) {
        is(call + " has so many", got.length, want.length);
        for (int i = 0; i < got.length && i < want.length; i++) {
            is(call + " [" + i + "]", got[i], want[i]);
        }
    }

    static int looked() {
        return looked;
    }

    static void end() {
        System.out.println(wrong == 0 ? looked + " answers are as due" : wrong + " of " + looked + " answers are not as due");
        System.exit(wrong == 0 ? 0 : 1);
    }
}
