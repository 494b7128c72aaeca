import java.util.function.Supplier;

/** Promises 2 to 26: for every number that a call takes, the smallest and the largest that is let, and beyond. */
public final class BoundsTest {
    private static final Supplier<ManorLoops> FULL = Houses::full;
    private static final Supplier<ManorLoops> SINGLE = Houses::single;
    private static final Supplier<ManorLoops> ROOMS = () -> Houses.rooms(8, 4);
    private static final Supplier<ManorLoops> TOLD = BoundsTest::told;
    private static final Supplier<ManorLoops> CROWD = Houses::crowd;

    public static void main(String[] args) {
        Check.runAll(BoundsTest.class);
    }

    private static void promise2Capacity() {
        Bounds.between(1, 30, ManorLoops::new, Bounds.NO_ARGUMENT, "room(x)", (m, x) -> m.room(x));
        Bounds.between(1, 30, SINGLE, Bounds.NO_ARGUMENT, "room(x)", (m, x) -> m.room(x));
    }

    private static void promise3Rooms() {
        Bounds.between(0, 7, ROOMS, Bounds.NO_INDEX, "door(x, 3, 2)", (m, x) -> m.door(x, 3, 2));
        Bounds.between(0, 7, ROOMS, Bounds.NO_INDEX, "door(3, x, 2)", (m, x) -> m.door(3, x, 2));
    }

    private static void promise3Width() {
        Bounds.between(1, 6, ROOMS, Bounds.NO_ARGUMENT, "door(0, 7, x)", (m, x) -> m.door(0, 7, x));
    }

    private static void promise4Home() {
        Bounds.between(0, 7, ROOMS, Bounds.NO_INDEX, "track(x)", (m, x) -> m.track(x));
        Bounds.between(0, 0, SINGLE, Bounds.NO_INDEX, "track(x)", (m, x) -> m.track(x));
    }

    private static void promise5Home() {
        Bounds.between(0, 7, ROOMS, Bounds.NO_INDEX, "prop(x)", (m, x) -> m.prop(x));
        Bounds.between(0, 0, SINGLE, Bounds.NO_INDEX, "prop(x)", (m, x) -> m.prop(x));
    }

    private static void promise6Room() {
        Bounds.between(0, 7, TOLD, Bounds.NO_INDEX, "scene(x, 1, 2, 3, -1)", (m, x) -> m.scene(x, 1, 2, 3, -1));
        Bounds.between(0, 0, SINGLE, Bounds.NO_INDEX, "scene(x, 1, 2, 1, -1)", (m, x) -> m.scene(x, 1, 2, 1, -1));
    }

    private static void promise6Start() {
        Bounds.between(0, 18, TOLD, Bounds.NO_ARGUMENT, "scene(0, x, 1, 3, -1)", (m, x) -> m.scene(0, x, 1, 3, -1));
        Bounds.between(0, 18, TOLD, Bounds.NO_ARGUMENT, "scene(0, x, 2, 3, -1)", (m, x) -> m.scene(0, x, 2, 3, -1));
    }

    private static void promise6Length() {
        Bounds.between(1, 8, TOLD, Bounds.NO_ARGUMENT, "scene(0, 0, x, 3, -1)", (m, x) -> m.scene(0, 0, x, 3, -1));
        Bounds.between(1, 8, TOLD, Bounds.NO_ARGUMENT, "scene(0, 12, x, 3, -1)", (m, x) -> m.scene(0, 12, x, 3, -1));
    }

    private static void promise6StartAndLengthTogether() {
        for (int length = 2; length <= 8; length++) {
            int minutes = length;
            Bounds.between(0, 20 - length, TOLD, Bounds.NO_ARGUMENT, "scene(0, x, " + length + ", 3, -1)",
                (m, x) -> m.scene(0, x, minutes, 3, -1));
        }
        for (int start = 12; start <= 18; start++) {
            int from = start;
            Bounds.between(1, 20 - start, TOLD, Bounds.NO_ARGUMENT, "scene(0, " + start + ", x, 3, -1)",
                (m, x) -> m.scene(0, from, x, 3, -1));
        }
    }

    private static void promise6Tracks() {
        Bounds.between(1, 31, TOLD, Bounds.NO_ARGUMENT, "scene(0, 1, 2, x, -1)", (m, x) -> m.scene(0, 1, 2, x, -1));
        Bounds.between(1, 1, SINGLE, Bounds.NO_ARGUMENT, "scene(0, 1, 2, x, -1)", (m, x) -> m.scene(0, 1, 2, x, -1));
        int[] notTold = {32, 33, 63, 64, 1 << 30, 31 | 1 << 30, -32, -31};
        for (int set : notTold) {
            Bounds.refused(TOLD, Bounds.NO_ARGUMENT, "tracks " + set, m -> m.scene(0, 1, 2, set, -1));
        }
    }

    private static void promise6Prop() {
        Bounds.between(-1, 3, TOLD, Bounds.NO_INDEX, "scene(0, 1, 2, 3, x)", (m, x) -> m.scene(0, 1, 2, 3, x));
        Bounds.between(-1, 0, SINGLE, Bounds.NO_INDEX, "scene(0, 1, 2, 1, x)", (m, x) -> m.scene(0, 1, 2, 1, x));
    }

    private static void promise7Room() {
        Bounds.between(0, 7, ROOMS, Bounds.NO_INDEX, "guest(x)", (m, x) -> m.guest(x));
        Bounds.between(0, 0, SINGLE, Bounds.NO_INDEX, "guest(x)", (m, x) -> m.guest(x));
    }

    private static void promise8Guest() {
        Bounds.between(0, 11, FULL, Bounds.NO_INDEX, "habit(x, 2, 0)", (m, x) -> m.habit(x, 2, 0));
        Bounds.between(0, 0, SINGLE, Bounds.NO_INDEX, "habit(x, 1, 0)", (m, x) -> m.habit(x, 1, 0));
    }

    private static void promise8Habits() {
        Bounds.between(0, 3, FULL, Bounds.NO_ARGUMENT, "habit(0, x, 0)", (m, x) -> m.habit(0, x, 0));
        Bounds.between(0, 3, FULL, Bounds.NO_ARGUMENT, "habit(11, x, 4)", (m, x) -> m.habit(11, x, 4));
    }

    private static void promise8TrackThatIsFollowed() {
        Bounds.between(0, 4, FULL, Bounds.NO_INDEX, "habit(11, 1, x)", (m, x) -> m.habit(11, 1, x));
        Bounds.between(0, 0, SINGLE, Bounds.NO_INDEX, "habit(0, 1, x)", (m, x) -> m.habit(0, 1, x));
    }

    private static void promise8TrackIsLookedAtWithFollowAlone() {
        int[] numbers = {-1, 5, Integer.MIN_VALUE, Integer.MAX_VALUE};
        int[] habits = {0, 2, 3};
        for (int number : numbers) {
            for (int habit : habits) {
                Bounds.let(FULL, "habit(0, " + habit + ", " + number + ")", m -> m.habit(0, habit, number));
            }
        }
    }

    private static void promise9Minutes() {
        Bounds.between(1, 60, FULL, Bounds.NO_ARGUMENT, "pass(x)", (m, x) -> m.pass(x));
        Bounds.between(1, 60, ManorLoops::new, Bounds.NO_ARGUMENT, "pass(x)", (m, x) -> m.pass(x));
    }

    private static void promise9NowToTheEnd() {
        for (int left = 0; left < 60; left += 7) {
            int minutes = left;
            Supplier<ManorLoops> late = () -> at(600 - minutes);
            if (left > 0) {
                Bounds.let(late, "pass(" + left + ") to 600", m -> m.pass(minutes));
            }
            Bounds.refused(late, Bounds.NO_STATE, "pass(" + (left + 1) + ") to 601", m -> m.pass(minutes + 1));
            Bounds.refused(late, Bounds.NO_STATE, "pass(60) from " + (600 - left), m -> m.pass(60));
        }
    }

    private static void promise10Guest() {
        Bounds.between(0, 11, CROWD, Bounds.NO_INDEX, "take(x, 1)", (m, x) -> m.take(x, 1));
        Bounds.between(0, 0, SINGLE, Bounds.NO_INDEX, "take(x, 0)", (m, x) -> m.take(x, 0));
    }

    private static void promise10Prop() {
        Bounds.between(0, 3, CROWD, Bounds.NO_INDEX, "take(5, x)", (m, x) -> m.take(5, x));
        Bounds.between(0, 0, SINGLE, Bounds.NO_INDEX, "take(0, x)", (m, x) -> m.take(0, x));
    }

    private static void promise11Guest() {
        Supplier<ManorLoops> held = () -> {
            ManorLoops m = Houses.crowd();
            m.take(0, 3);
            m.take(11, 0);
            return m;
        };
        Bounds.between(0, 11, held, Bounds.NO_INDEX, "leave(x)", (m, x) -> m.leave(x));
    }

    private static void promise12Tracks() {
        Bounds.between(0, 4, CROWD, Bounds.NO_INDEX, "play(x, 2)", (m, x) -> m.play(x, 2));
        Bounds.between(0, 4, CROWD, Bounds.NO_INDEX, "play(2, x)", (m, x) -> m.play(2, x));
    }

    private static void promise13Track() {
        Supplier<ManorLoops> doubled = () -> {
            ManorLoops m = Houses.crowd();
            m.play(0, 1);
            m.play(4, 3);
            return m;
        };
        Bounds.between(0, 4, doubled, Bounds.NO_INDEX, "part(x)", (m, x) -> m.part(x));
    }

    private static void promise14RoomAndWhat() {
        Bounds.between(0, 7, FULL, Bounds.NO_INDEX, "ofRoom(x, 4)", (m, x) -> m.ofRoom(x, 4));
        Bounds.between(0, 0, SINGLE, Bounds.NO_INDEX, "ofRoom(x, 0)", (m, x) -> m.ofRoom(x, 0));
        Bounds.between(0, 4, FULL, Bounds.NO_ARGUMENT, "ofRoom(7, x)", (m, x) -> m.ofRoom(7, x));
    }

    private static void promise15RoomsAndWhat() {
        Bounds.between(0, 7, FULL, Bounds.NO_INDEX, "way(x, 0, 0)", (m, x) -> m.way(x, 0, 0));
        Bounds.between(0, 7, FULL, Bounds.NO_INDEX, "way(7, x, 1)", (m, x) -> m.way(7, x, 1));
        Bounds.between(0, 0, SINGLE, Bounds.NO_INDEX, "way(x, 0, 1)", (m, x) -> m.way(x, 0, 1));
        Bounds.between(0, 0, SINGLE, Bounds.NO_INDEX, "way(0, x, 0)", (m, x) -> m.way(0, x, 0));
        Bounds.between(0, 1, FULL, Bounds.NO_ARGUMENT, "way(0, 7, x)", (m, x) -> m.way(0, 7, x));
        Bounds.between(0, 1, FULL, Bounds.NO_ARGUMENT, "way(7, 7, x)", (m, x) -> m.way(7, 7, x));
    }

    private static void promise16TrackAndWhat() {
        Bounds.between(0, 4, FULL, Bounds.NO_INDEX, "ofTrack(x, 4)", (m, x) -> m.ofTrack(x, 4));
        Bounds.between(0, 0, SINGLE, Bounds.NO_INDEX, "ofTrack(x, 0)", (m, x) -> m.ofTrack(x, 0));
        Bounds.between(0, 4, FULL, Bounds.NO_ARGUMENT, "ofTrack(4, x)", (m, x) -> m.ofTrack(4, x));
    }

    private static void promise17SceneAndWhat() {
        Bounds.between(0, 11, FULL, Bounds.NO_INDEX, "ofScene(x, 10)", (m, x) -> m.ofScene(x, 10));
        Bounds.between(0, 0, SINGLE, Bounds.NO_INDEX, "ofScene(x, 0)", (m, x) -> m.ofScene(x, 0));
        Bounds.between(0, 10, FULL, Bounds.NO_ARGUMENT, "ofScene(11, x)", (m, x) -> m.ofScene(11, x));
    }

    private static void promise18GuestAndWhat() {
        Bounds.between(0, 11, FULL, Bounds.NO_INDEX, "ofGuest(x, 6)", (m, x) -> m.ofGuest(x, 6));
        Bounds.between(0, 0, SINGLE, Bounds.NO_INDEX, "ofGuest(x, 0)", (m, x) -> m.ofGuest(x, 0));
        Bounds.between(0, 6, FULL, Bounds.NO_ARGUMENT, "ofGuest(11, x)", (m, x) -> m.ofGuest(11, x));
    }

    private static void promise19PropAndWhat() {
        Bounds.between(0, 3, FULL, Bounds.NO_INDEX, "ofProp(x, 4)", (m, x) -> m.ofProp(x, 4));
        Bounds.between(0, 0, SINGLE, Bounds.NO_INDEX, "ofProp(x, 0)", (m, x) -> m.ofProp(x, 0));
        Bounds.between(0, 4, FULL, Bounds.NO_ARGUMENT, "ofProp(3, x)", (m, x) -> m.ofProp(3, x));
    }

    private static void promise20GuestAndScene() {
        Bounds.between(0, 11, FULL, Bounds.NO_INDEX, "seen(x, 11)", (m, x) -> m.seen(x, 11));
        Bounds.between(0, 11, FULL, Bounds.NO_INDEX, "seen(11, x)", (m, x) -> m.seen(11, x));
        Bounds.between(0, 0, SINGLE, Bounds.NO_INDEX, "seen(x, 0)", (m, x) -> m.seen(x, 0));
        Bounds.between(0, 0, SINGLE, Bounds.NO_INDEX, "seen(0, x)", (m, x) -> m.seen(0, x));
    }

    private static void promise21What() {
        Bounds.between(0, 12, FULL, Bounds.NO_ARGUMENT, "many(x)", (m, x) -> m.many(x));
        Bounds.between(0, 12, ManorLoops::new, Bounds.NO_ARGUMENT, "many(x)", (m, x) -> m.many(x));
    }

    private static void promise23GuestAndMinutes() {
        Bounds.between(0, 11, FULL, Bounds.NO_INDEX, "wouldKnow(x, 40)", (m, x) -> m.wouldKnow(x, 40));
        Bounds.between(0, 0, SINGLE, Bounds.NO_INDEX, "wouldKnow(x, 1)", (m, x) -> m.wouldKnow(x, 1));
        Bounds.between(1, 40, FULL, Bounds.NO_ARGUMENT, "wouldKnow(11, x)", (m, x) -> m.wouldKnow(11, x));
    }

    private static void promise24GuestAndMinutes() {
        Bounds.between(0, 11, FULL, Bounds.NO_INDEX, "bestHabit(x, 40)", (m, x) -> m.bestHabit(x, 40));
        Bounds.between(0, 0, SINGLE, Bounds.NO_INDEX, "bestHabit(x, 1)", (m, x) -> m.bestHabit(x, 1));
        Bounds.between(1, 40, FULL, Bounds.NO_ARGUMENT, "bestHabit(11, x)", (m, x) -> m.bestHabit(11, x));
    }

    private static void promise25Minutes() {
        Bounds.between(1, 40, FULL, Bounds.NO_ARGUMENT, "wouldCut(x)", (m, x) -> m.wouldCut(x));
        Bounds.between(1, 40, ManorLoops::new, Bounds.NO_ARGUMENT, "wouldCut(x)", (m, x) -> m.wouldCut(x));
    }

    private static void promise26Track() {
        Bounds.between(0, 4, FULL, Bounds.NO_INDEX, "doubles(x)", (m, x) -> m.doubles(x));
        Bounds.between(0, 0, SINGLE, Bounds.NO_INDEX, "doubles(x)", (m, x) -> m.doubles(x));
    }

    /** Eight rooms, five tracks, four props, no scene as yet. */
    private static ManorLoops told() {
        ManorLoops m = Houses.rooms(8, 4);
        for (int track = 0; track < 5; track++) {
            m.track(track);
        }
        for (int prop = 0; prop < 4; prop++) {
            m.prop(prop);
        }
        return m;
    }

    private static ManorLoops at(int now) {
        ManorLoops m = Houses.middling();
        while (m.many(0) < now) {
            m.pass(Math.min(60, now - m.many(0)));
        }
        return m;
    }
}
