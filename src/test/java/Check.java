/** Counts answers that are not as due; every test ends with finish(). */
final class Check {
    private static int looked = 0;
    private static int wrong = 0;
    private static String about = "";

    private Check() {
    }

    /** What is looked at from here on belongs to this; "" for nothing in particular. */
    static void about(String what) {
        about = what.isEmpty() ? "" : what + ": ";
    }

    static void due(String call, long got, long want) {
        looked++;
        if (got != want) {
            wrong++;
            System.out.println(about + call + " answered " + got + ", due is " + want);
        }
    }

    static void holds(String what, boolean isSo) {
        due(what, isSo ? 1 : 0, 1);
    }

    static boolean anyWrong() {
        return wrong != 0;
    }

    static int wrong() {
        return wrong;
    }

    static void finish(String test) {
        System.out.println(test + ": " + looked + " answers looked at, " + wrong + " not as due");
        if (wrong != 0) System.exit(1);
    }
}
