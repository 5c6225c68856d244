/** Counts and prints the answers that are not due; each test class ends with Check.end(). */
final class Check {
    private static int wrong = 0;
    private static int right = 0;

    private Check() {
    }

    static void yes(String what, boolean got) {
        tell(what, got, "" + got, "true");
    }

    static void no(String what, boolean got) {
        tell(what, !got, "" + got, "false");
    }

    static void same(String what, long got, long due) {
        tell(what, got == due, "" + got, "" + due);
    }

    /** To the last bit, but for the sign of 0.0; a NaN is never due. */
    static void same(String what, double got, double due) {
        tell(what, got == due, "" + got, "" + due);
    }

    static void end() {
        System.out.println(right + " answers as due, " + wrong + " not");
        if (wrong != 0) {
            System.exit(1);
        }
    }

    private static void tell(String what, boolean fine, String got, String due) {
        if (fine) {
            right++;
            return;
        }
        wrong++;
        System.out.println(what + " answered " + got + ", due is " + due);
    }
}
