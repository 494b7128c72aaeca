import java.util.HashMap;
import java.util.Map;
import java.util.function.Supplier;
import java.util.function.ToLongFunction;

/** What is let and what is refused, each on a fresh object; a refused call leaves all answers, now and later. */
final class Bounds {
    static final String NO_INDEX = "IndexOutOfBoundsException";
    static final String NO_ARGUMENT = "IllegalArgumentException";
    static final String NO_STATE = "IllegalStateException";

    private static final int LATER = 23;

    /** The answers of an object that nothing was refused to, by what makes it. */
    private static final Map<Supplier<ManorLoops>, String> UNTOUCHED = new HashMap<>();

    /** A call with one of its numbers left open. */
    interface Open {
        long answer(ManorLoops manor, int number);
    }

    private Bounds() {
    }

    /** The smallest and the largest are let; the ones beside them, and the ones at the ends of int, are refused. */
    static void between(int least, int most, Supplier<ManorLoops> maker, String due, String what, Open call) {
        let(maker, what + " with " + least, m -> call.answer(m, least));
        let(maker, what + " with " + most, m -> call.answer(m, most));
        int[] wrong = {least - 1, most + 1, Integer.MIN_VALUE, Integer.MAX_VALUE};
        for (int number : wrong) {
            refused(maker, due, what + " with " + number, m -> call.answer(m, number));
        }
    }

    static void let(Supplier<ManorLoops> maker, String what, ToLongFunction<ManorLoops> call) {
        ManorLoops m = maker.get();
        String got = Check.outcome(() -> call.applyAsLong(m));
        if (got.startsWith("throws.")) {
            Check.complain(what + " answered " + got + ", but it is let");
        }
    }

    static void refused(Supplier<ManorLoops> maker, String due, String what, ToLongFunction<ManorLoops> call) {
        ManorLoops m = maker.get();
        Check.sameText(what, Check.outcome(() -> call.applyAsLong(m)), "throws." + due);
        String touched = answers(() -> {
            ManorLoops other = maker.get();
            Check.outcome(() -> call.applyAsLong(other));
            return other;
        });
        if (!touched.equals(UNTOUCHED.computeIfAbsent(maker, Bounds::answers))) {
            Check.complain(what + " was refused, but changed an answer");
        }
    }

    /** All answers, and all a while later, as a fault may show in what follows alone. */
    private static String answers(Supplier<ManorLoops> maker) {
        return Answers.of(maker) + Answers.of(() -> {
            ManorLoops m = maker.get();
            if (m.many(0) + LATER <= 600) {
                m.pass(LATER);
            }
            return m;
        });
    }
}
