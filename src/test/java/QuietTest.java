import java.util.ArrayList;
import java.util.List;
import java.util.function.Consumer;
import java.util.function.ToLongFunction;

/**
 * Promises 14 to 27: an asking call between two doing calls changes nothing. The same evening is played twice, once
 * with nothing asked, once with the call asked ahead of every step, also with numbers that are refused.
 */
public final class QuietTest {
    private static final int[] NUMBERS = {0, 1, 3, 4, -1};

    /** What is told and done in an evening, a call a step. */
    private static final List<ToLongFunction<ManorLoops>> STEPS = List.of(
        m -> m.pass(2), m -> m.take(0, 0), m -> m.pass(3), m -> m.leave(0), m -> m.habit(0, 1, 2), m -> m.pass(6),
        m -> m.track(1), m -> m.play(3, 0), m -> m.pass(8), m -> m.guest(1), m -> m.pass(2), m -> m.take(3, 0),
        m -> m.door(0, 2, 1), m -> m.pass(15), m -> m.leave(3), m -> m.part(3), m -> m.prop(3), m -> m.pass(39));

    public static void main(String[] args) {
        Check.runAll(QuietTest.class);
    }

    private static void promise14OfRoom() {
        quiet(m -> each((x, y) -> m.ofRoom(x, y)));
    }

    private static void promise15Way() {
        quiet(m -> each((x, y) -> m.way(x, y, 1)));
    }

    private static void promise16OfTrack() {
        quiet(m -> each((x, y) -> m.ofTrack(x, y)));
    }

    private static void promise17OfScene() {
        quiet(m -> each((x, y) -> m.ofScene(x, y + 4)));
    }

    private static void promise18OfGuest() {
        quiet(m -> each((x, y) -> m.ofGuest(x, y + 1)));
    }

    private static void promise19OfProp() {
        quiet(m -> each((x, y) -> m.ofProp(x, y)));
    }

    private static void promise20Seen() {
        quiet(m -> each((x, y) -> m.seen(x, y)));
    }

    private static void promise21Many() {
        quiet(m -> each((x, y) -> m.many(2 * x + y)));
    }

    private static void promise22MeanKnown() {
        quiet(m -> m.meanKnown());
    }

    private static void promise23WouldKnow() {
        quiet(m -> each((x, y) -> m.wouldKnow(x, 10 * y)));
    }

    private static void promise24BestHabit() {
        quiet(m -> each((x, y) -> m.bestHabit(x, 10 * y)));
    }

    private static void promise25WouldCut() {
        quiet(m -> each((x, y) -> m.wouldCut(8 * x + y)));
    }

    private static void promise26Doubles() {
        quiet(m -> each((x, y) -> m.doubles(x)));
    }

    private static void promise27Digest() {
        quiet(m -> m.digest());
    }

    /** Asked twice in a row, nothing is answered otherwise. */
    private static void promises14To27AskedTwice() {
        for (int minutes = 1; minutes <= 41; minutes += 4) {
            ManorLoops m = Houses.middling();
            m.pass(minutes);
            String first = Answers.of(() -> m);
            Check.sameText("asked again at " + minutes, Answers.of(() -> m), first);
        }
    }

    private static void quiet(Consumer<ManorLoops> asking) {
        List<Long> quiet = new ArrayList<>();
        List<Long> asked = new ArrayList<>();
        String quietEnd = Answers.of(() -> play(quiet, m -> { }));
        String askedEnd = Answers.of(() -> play(asked, asking));
        Check.sameText("what was told and done", asked.toString(), quiet.toString());
        Check.sameText("all behind it", askedEnd, quietEnd);
    }

    private static ManorLoops play(List<Long> answers, Consumer<ManorLoops> asking) {
        ManorLoops m = Houses.middling();
        for (ToLongFunction<ManorLoops> step : STEPS) {
            asking.accept(m);
            answers.add(step.applyAsLong(m));
        }
        asking.accept(m);
        return m;
    }

    private static void each(Question question) {
        for (int i = 0; i < NUMBERS.length; i++) {
            int x = NUMBERS[i];
            for (int j = 0; j < 2; j++) {
                int y = NUMBERS[(i + 3 * j) % NUMBERS.length];
                Check.outcome(() -> question.ask(x, y));
            }
        }
    }

    /** An asking call with two numbers. */
    interface Question {
        long ask(int x, int y);
    }
}
