/** Compares answers with what is due, prints those that differ, and ends a test with the exit code that tells of them. */
final class Check {
    private static String about = "";
    private static int compared = 0;
    private static int wrong = 0;

    private Check() {
    }

    /** What the next comparisons are about: a promise, or a run. */
    static void about(String what) {
        about = what;
    }

    static void due(String call, long got, long want) {
        compared++;
        if (got != want) {
            wrong++;
            System.out.println(about + ": " + call + " answered " + got + ", due is " + want);
        }
    }

    static void holds(String what, boolean is) {
        compared++;
        if (!is) {
            wrong++;
            System.out.println(about + ": " + what + " does not hold");
        }
    }

    static boolean anyWrong() {
        return wrong > 0;
    }

    static void end(String test) {
        System.out.println(test + ": " + compared + " compared, " + wrong + " wrong");
        if (wrong > 0 || compared == 0) {
            System.exit(1);
        }
    }
}
