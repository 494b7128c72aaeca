/** What it is: an object is used for 512 calls, and the last of them is answered as the first ones. */
public final class LifeTest {
    private static final int CALLS = 512;

    public static void main(String[] args) {
        Check.runAll(LifeTest.class);
    }

    private static void promise9FiveHundredTwelveCallsOfPass() {
        ManorLoops m = Houses.rooms(1, 1);
        m.track(0);
        m.scene(0, 5, 1, 1, -1);
        for (int call = 4; call <= CALLS; call++) {
            int now = call - 3;
            Check.same("call " + call, m.pass(1), now % 20 == 6 ? 1 : 0);
        }
    }

    private static void promise8FiveHundredTwelveCallsOfHabit() {
        ManorLoops m = Houses.rooms(1, 1);
        m.guest(0);
        int before = 0;
        for (int call = 3; call <= CALLS; call++) {
            int next = call % 2 == 0 ? 3 : 2;
            Check.same("call " + call, m.habit(0, next, 0), before);
            before = next;
        }
    }

    private static void promises10And11FiveHundredTwelveCallsOfTakeAndLeave() {
        ManorLoops m = Houses.rooms(1, 2);
        m.prop(0);
        m.guest(0);
        m.guest(0);
        for (int call = 5; call + 1 <= CALLS; call += 2) {
            int guest = call / 2 % 2;
            Check.same("call " + call, m.take(guest, 0), call < 7 ? 1 : 2);
            Check.same("call " + (call + 1), m.leave(guest), 0);
        }
    }

    private static void promises12And13FiveHundredTwelveCallsOfPlayAndPart() {
        ManorLoops m = Houses.rooms(1, 2);
        m.track(0);
        m.track(0);
        m.scene(0, 0, 1, 2, -1);
        for (int call = 5; call + 1 <= CALLS; call += 2) {
            int track = call / 2 % 2;
            Check.same("call " + call, m.play(track, 1 - track), 1);
            Check.same("call " + (call + 1), m.part(track), 1 - track);
        }
    }

    private static void promises2To8FiveHundredTwelveRefusals() {
        ManorLoops m = Houses.full();
        long before = m.digest();
        for (int call = 70; call + 6 < CALLS; call += 7) {
            Check.sameText("room", Check.outcome(() -> m.room(1)), "throws.IllegalStateException");
            Check.sameText("door", Check.outcome(() -> m.door(1, 3, 1)), "throws.IllegalStateException");
            Check.sameText("track", Check.outcome(() -> m.track(0)), "throws.IllegalStateException");
            Check.sameText("prop", Check.outcome(() -> m.prop(0)), "throws.IllegalStateException");
            Check.sameText("scene", Check.outcome(() -> m.scene(0, 14, 1, 16, -1)), "throws.IllegalStateException");
            Check.sameText("guest", Check.outcome(() -> m.guest(0)), "throws.IllegalStateException");
            Check.sameText("habit", Check.outcome(() -> m.habit(12, 0, 0)), "throws.IndexOutOfBoundsException");
        }
        Check.same("digest behind them", m.digest(), before);
    }

    private static void promises23To27FiveHundredTwelveOutlooks() {
        ManorLoops m = Houses.full();
        m.pass(33);
        int known = m.wouldKnow(3, 40);
        int best = m.bestHabit(11, 40);
        int cut = m.wouldCut(40);
        int by = m.doubles(2);
        long digest = m.digest();
        for (int call = 78; call + 4 <= CALLS; call += 5) {
            Check.same("wouldKnow", m.wouldKnow(3, 40), known);
            Check.same("bestHabit", m.bestHabit(11, 40), best);
            Check.same("wouldCut", m.wouldCut(40), cut);
            Check.same("doubles", m.doubles(2), by);
            Check.same("digest", m.digest(), digest);
        }
    }
}
