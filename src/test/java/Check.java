/** Counts the answers that are not as due; a test ends with exit code 1 if there was one. */
final class Check {
    private static int wrong = 0;

    /** A call that may throw. */
    interface Call {
        long answer();
    }

    private Check() {
    }

    static void same(String what, long got, long due) {
        if (got != due) {
            complain(what + " answered " + got + ", due is " + due);
        }
    }

    static void sameDouble(String what, double got, double due) {
        if (got != due) {
            complain(what + " answered " + got + ", due is " + due);
        }
    }

    static void sameText(String what, String got, String due) {
        if (!got.equals(due)) {
            complain(what + " answered " + got + ", due is " + due);
        }
    }

    static void noIndex(ManorLoops manor, String what, Call call) {
        refused(manor, what, "IndexOutOfBoundsException", call);
    }

    static void noArgument(ManorLoops manor, String what, Call call) {
        refused(manor, what, "IllegalArgumentException", call);
    }

    static void noState(ManorLoops manor, String what, Call call) {
        refused(manor, what, "IllegalStateException", call);
    }

    private static void refused(ManorLoops manor, String what, String due, Call call) {
        long before = manor.digest();
        sameText(what, outcome(call), "throws." + due);
        same("digest behind the refused " + what, manor.digest(), before);
    }

    static String outcome(Call call) {
        try {
            return Long.toString(call.answer());
        } catch (RuntimeException e) {
            return "throws." + e.getClass().getSimpleName();
        }
    }

    static void complain(String what) {
        wrong++;
        if (wrong <= 50) {
            System.out.println(what);
        }
    }

    static void end() {
        if (wrong > 0) {
            System.out.println(wrong + " wrong");
            System.exit(1);
        }
    }
}
