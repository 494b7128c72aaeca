import java.lang.reflect.InvocationTargetException;
import java.lang.reflect.Method;
import java.lang.reflect.Modifier;
import java.util.Arrays;
import java.util.Comparator;

/** Runs tests and counts the answers that are not as due; a test class ends with exit code 1 if there was one. */
final class Check {
    private static final int MOST_TOLD = 50;

    private static int wrong = 0;
    /** The name of the test that runs: every complaint names it, and so the promise's number. */
    private static String test = "";

    /** A call that may throw. */
    interface Call {
        long answer();
    }

    private Check() {
    }

    /** Every static method whose name begins with "promise" is a test: none can be forgotten in a list. */
    static void runAll(Class<?> tests) {
        Method[] methods = tests.getDeclaredMethods();
        Arrays.sort(methods, Comparator.comparing(Method::getName));
        int ran = 0;
        for (Method method : methods) {
            if (isTest(method)) {
                run(method);
                ran++;
            }
        }
        test = tests.getSimpleName();
        if (ran == 0) {
            complain("has no tests");
        }
        end(ran);
    }

    private static boolean isTest(Method method) {
        return method.getName().startsWith("promise") && Modifier.isStatic(method.getModifiers())
            && method.getParameterCount() == 0 && method.getReturnType() == void.class;
    }

    private static void run(Method method) {
        test = method.getName();
        method.setAccessible(true);
        try {
            method.invoke(null);
        } catch (InvocationTargetException e) {
            complain("ended with " + e.getCause() + " at " + e.getCause().getStackTrace()[0]);
        } catch (IllegalAccessException e) {
            complain("can not be run");
        }
    }

    static void same(String what, long got, long due) {
        if (got != due) {
            complain(what + " answered " + got + ", due is " + due);
        }
    }

    static void sameDouble(String what, double got, double due) {
        if (got != due) {
            complain(what + " answered " + got + ", due is " + due);
        }
    }

    static void sameText(String what, String got, String due) {
        if (!got.equals(due)) {
            complain(what + " answered " + got + ", due is " + due);
        }
    }

    static void noIndex(ManorLoops manor, String what, Call call) {
        refused(manor, what, "IndexOutOfBoundsException", call);
    }

    static void noArgument(ManorLoops manor, String what, Call call) {
        refused(manor, what, "IllegalArgumentException", call);
    }

    static void noState(ManorLoops manor, String what, Call call) {
        refused(manor, what, "IllegalStateException", call);
    }

    private static void refused(ManorLoops manor, String what, String due, Call call) {
        long before = manor.digest();
        sameText(what, outcome(call), "throws." + due);
        same("digest behind the refused " + what, manor.digest(), before);
    }

    static String outcome(Call call) {
        try {
            return Long.toString(call.answer());
        } catch (RuntimeException e) {
            return "throws." + e.getClass().getSimpleName();
        }
    }

    static void complain(String what) {
        wrong++;
        if (wrong <= MOST_TOLD) {
            System.out.println(test + ": " + what);
        }
    }

    private static void end(int ran) {
        System.out.println(test + ": tests " + ran + ", wrong answers " + wrong);
        if (wrong > 0) {
            System.exit(1);
        }
    }
}
