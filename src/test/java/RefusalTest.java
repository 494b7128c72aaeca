import java.util.function.Supplier;

/**
 * Promises 2 to 26: every reason for an exception by itself, and two or three at once, of which the one that is named
 * first counts. Bounds.refused looks that nothing is changed, neither at once nor a while later.
 */
public final class RefusalTest {
    private static final Supplier<ManorLoops> FULL = Houses::full;
    private static final Supplier<ManorLoops> MIDDLING = Houses::middling;
    private static final Supplier<ManorLoops> RUNNING = () -> passed(Houses.middling(), 7);
    private static final Supplier<ManorLoops> STAGE = RefusalTest::stage;
    private static final Supplier<ManorLoops> CAST = () -> Houses.cast(4);
    private static final Supplier<ManorLoops> DOUBLED = RefusalTest::doubled;
    private static final Supplier<ManorLoops> TAKEN = RefusalTest::taken;
    private static final Supplier<ManorLoops> IN_SCENE = () -> passed(Houses.single(), 4);

    public static void main(String[] args) {
        Check.runAll(RefusalTest.class);
    }

    private static void promise2EightRooms() {
        Bounds.refused(FULL, Bounds.NO_STATE, "room(1) as a ninth one", m -> m.room(1));
        Bounds.refused(FULL, Bounds.NO_STATE, "room(30) as a ninth one", m -> m.room(30));
    }

    private static void promise2CapacityAheadOfEightRooms() {
        Bounds.refused(FULL, Bounds.NO_ARGUMENT, "room(0) as a ninth one", m -> m.room(0));
        Bounds.refused(FULL, Bounds.NO_ARGUMENT, "room(31) as a ninth one", m -> m.room(31));
    }

    private static void promise3Same() {
        for (int room = 0; room < 4; room++) {
            int both = room;
            Bounds.refused(MIDDLING, Bounds.NO_ARGUMENT, "door of one room " + room, m -> m.door(both, both, 1));
        }
    }

    private static void promise3TheyHaveOne() {
        Bounds.refused(MIDDLING, Bounds.NO_STATE, "door(0, 1, 6) again", m -> m.door(0, 1, 6));
        Bounds.refused(MIDDLING, Bounds.NO_STATE, "door(1, 0, 6) the other way", m -> m.door(1, 0, 6));
        Bounds.refused(MIDDLING, Bounds.NO_STATE, "door(0, 3, 1) the other way", m -> m.door(0, 3, 1));
    }

    private static void promise3FourteenDoors() {
        Bounds.refused(FULL, Bounds.NO_STATE, "door(1, 3, 1) as a fifteenth one", m -> m.door(1, 3, 1));
        Bounds.refused(FULL, Bounds.NO_STATE, "door(0, 1, 1), both", m -> m.door(0, 1, 1));
    }

    private static void promise3IndexAheadOfTheRest() {
        Bounds.refused(MIDDLING, Bounds.NO_INDEX, "door(4, 4, 1), the same", m -> m.door(4, 4, 1));
        Bounds.refused(MIDDLING, Bounds.NO_INDEX, "door(-1, -1, 1), the same", m -> m.door(-1, -1, 1));
        Bounds.refused(MIDDLING, Bounds.NO_INDEX, "door(4, 0, 0), width", m -> m.door(4, 0, 0));
        Bounds.refused(MIDDLING, Bounds.NO_INDEX, "door(0, 4, 7), width", m -> m.door(0, 4, 7));
        Bounds.refused(FULL, Bounds.NO_INDEX, "door(8, 0, 1), 14 doors", m -> m.door(8, 0, 1));
        Bounds.refused(FULL, Bounds.NO_INDEX, "door(0, 8, 1), 14 doors", m -> m.door(0, 8, 1));
        Bounds.refused(FULL, Bounds.NO_INDEX, "door(0, -1, 7), all", m -> m.door(0, -1, 7));
    }

    private static void promise3ArgumentAheadOfState() {
        Bounds.refused(FULL, Bounds.NO_ARGUMENT, "door(1, 3, 0), 14 doors", m -> m.door(1, 3, 0));
        Bounds.refused(FULL, Bounds.NO_ARGUMENT, "door(1, 3, 7), 14 doors", m -> m.door(1, 3, 7));
        Bounds.refused(FULL, Bounds.NO_ARGUMENT, "door(5, 5, 1), 14 doors", m -> m.door(5, 5, 1));
        Bounds.refused(MIDDLING, Bounds.NO_ARGUMENT, "door(0, 1, 0), they have one", m -> m.door(0, 1, 0));
        Bounds.refused(MIDDLING, Bounds.NO_ARGUMENT, "door(1, 0, 7), they have one", m -> m.door(1, 0, 7));
    }

    private static void promise4FiveTracks() {
        Bounds.refused(FULL, Bounds.NO_STATE, "track(0) as a sixth one", m -> m.track(0));
        Bounds.refused(FULL, Bounds.NO_STATE, "track(7) as a sixth one", m -> m.track(7));
        Bounds.refused(FULL, Bounds.NO_INDEX, "track(8) as a sixth one", m -> m.track(8));
        Bounds.refused(FULL, Bounds.NO_INDEX, "track(-1) as a sixth one", m -> m.track(-1));
    }

    private static void promise5FourProps() {
        Bounds.refused(FULL, Bounds.NO_STATE, "prop(0) as a fifth one", m -> m.prop(0));
        Bounds.refused(FULL, Bounds.NO_STATE, "prop(7) as a fifth one", m -> m.prop(7));
        Bounds.refused(FULL, Bounds.NO_INDEX, "prop(8) as a fifth one", m -> m.prop(8));
        Bounds.refused(FULL, Bounds.NO_INDEX, "prop(-1) as a fifth one", m -> m.prop(-1));
    }

    private static void promise6NowAboveZero() {
        int[] nows = {1, 19, 20, 21, 40, 600};
        for (int now : nows) {
            Bounds.refused(() -> passed(stage(), now), Bounds.NO_STATE, "scene at " + now,
                m -> m.scene(0, 12, 2, 4, -1));
        }
        Bounds.let(STAGE, "scene at 0", m -> m.scene(0, 12, 2, 4, -1));
    }

    private static void promise6TwelveScenes() {
        Supplier<ManorLoops> eleven = () -> scenes(11);
        Bounds.let(eleven, "a twelfth one", m -> m.scene(0, 18, 1, 1, -1));
        Bounds.refused(() -> scenes(12), Bounds.NO_STATE, "a thirteenth one", m -> m.scene(0, 18, 1, 1, -1));
        Bounds.refused(FULL, Bounds.NO_STATE, "a thirteenth one of a full house", m -> m.scene(0, 14, 1, 1 << 4, -1));
    }

    /** The stage has a scene of tracks 0 and 1 in the minutes 4 to 7. */
    private static void promise6Overlap() {
        int[][] common = {{0, 5}, {2, 3}, {3, 2}, {4, 1}, {4, 8}, {7, 1}, {7, 8}, {5, 1}, {1, 8}};
        for (int[] time : common) {
            for (int tracks = 1; tracks < 4; tracks++) {
                int set = tracks;
                Bounds.refused(STAGE, Bounds.NO_STATE, "from " + time[0] + " for " + time[1] + " with " + tracks,
                    m -> m.scene(1, time[0], time[1], set, -1));
            }
            Bounds.refused(STAGE, Bounds.NO_STATE, "from " + time[0] + " with another one too",
                m -> m.scene(0, time[0], time[1], 6, -1));
            Bounds.let(STAGE, "from " + time[0] + " with another one alone", m -> m.scene(0, time[0], time[1], 4, -1));
        }
        int[][] apart = {{0, 4}, {3, 1}, {8, 1}, {8, 8}, {1, 3}};
        for (int[] time : apart) {
            Bounds.let(STAGE, "from " + time[0] + " for " + time[1], m -> m.scene(0, time[0], time[1], 3, -1));
        }
    }

    private static void promise6SomeTrackIsPlayed() {
        for (int track = 0; track < 5; track++) {
            int played = track;
            Supplier<ManorLoops> doubled = () -> {
                ManorLoops m = Houses.cast(4);
                m.play(played, (played + 1) % 5);
                return m;
            };
            for (int of = 0; of < 5; of++) {
                int set = 1 << of;
                Bounds.refused(doubled, Bounds.NO_STATE, "scene of " + of + " as " + track + " is PLAYED",
                    m -> m.scene(0, 0, 1, set, -1));
            }
            Bounds.let(doubled, "scene when they parted", m -> m.part(played) + m.scene(0, 0, 1, 1, -1));
        }
    }

    private static void promise6IndexAheadOfTheRest() {
        int[][] arguments = {{19, 1, 1}, {-1, 1, 1}, {0, 0, 1}, {0, 9, 1}, {18, 3, 1}, {0, 1, 0}, {0, 1, 8}, {0, 1, -1}};
        for (int[] wrong : arguments) {
            Bounds.refused(STAGE, Bounds.NO_INDEX, "no room, start " + wrong[0],
                m -> m.scene(2, wrong[0], wrong[1], wrong[2], -1));
            Bounds.refused(STAGE, Bounds.NO_INDEX, "no prop, start " + wrong[0],
                m -> m.scene(0, wrong[0], wrong[1], wrong[2], 2));
            Bounds.refused(STAGE, Bounds.NO_INDEX, "neither, start " + wrong[0],
                m -> m.scene(-1, wrong[0], wrong[1], wrong[2], -2));
        }
        Bounds.refused(STAGE, Bounds.NO_INDEX, "no room, overlap", m -> m.scene(2, 4, 1, 1, -1));
        Bounds.refused(STAGE, Bounds.NO_INDEX, "no prop, overlap", m -> m.scene(0, 4, 1, 1, 2));
        Bounds.refused(FULL, Bounds.NO_INDEX, "no room, 12 scenes", m -> m.scene(8, 14, 1, 16, -1));
        Bounds.refused(FULL, Bounds.NO_INDEX, "no prop, 12 scenes", m -> m.scene(0, 14, 1, 16, 4));
        Bounds.refused(RUNNING, Bounds.NO_INDEX, "no room, NOW", m -> m.scene(4, 14, 1, 1, -1));
        Bounds.refused(RUNNING, Bounds.NO_INDEX, "no prop, NOW", m -> m.scene(0, 14, 1, 1, 2));
        Bounds.refused(DOUBLED, Bounds.NO_INDEX, "no room, PLAYED", m -> m.scene(1, 0, 1, 1, -1));
        Bounds.refused(DOUBLED, Bounds.NO_INDEX, "no prop, PLAYED", m -> m.scene(0, 0, 1, 1, 4));
    }

    private static void promise6ArgumentAheadOfState() {
        int[][] arguments = {{19, 1, 1}, {-1, 1, 1}, {4, 0, 1}, {4, 9, 1}, {18, 3, 1}, {13, 8, 1}, {4, 1, 0}, {4, 1, 32}};
        for (int[] wrong : arguments) {
            String what = "start " + wrong[0] + ", length " + wrong[1] + ", tracks " + wrong[2] + ", ";
            Bounds.refused(STAGE, Bounds.NO_ARGUMENT, what + "overlap", m -> m.scene(0, wrong[0], wrong[1], wrong[2], -1));
            Bounds.refused(FULL, Bounds.NO_ARGUMENT, what + "12", m -> m.scene(0, wrong[0], wrong[1], wrong[2], -1));
            Bounds.refused(RUNNING, Bounds.NO_ARGUMENT, what + "NOW", m -> m.scene(0, wrong[0], wrong[1], wrong[2], 1));
            Bounds.refused(DOUBLED, Bounds.NO_ARGUMENT, what + "PLAYED",
                m -> m.scene(0, wrong[0], wrong[1], wrong[2], -1));
        }
    }

    private static void promise7TwelveGuests() {
        Bounds.refused(FULL, Bounds.NO_STATE, "guest(0) as a thirteenth one", m -> m.guest(0));
        Bounds.refused(FULL, Bounds.NO_STATE, "guest(7) as a thirteenth one, full", m -> m.guest(7));
        Bounds.refused(FULL, Bounds.NO_INDEX, "guest(8) as a thirteenth one", m -> m.guest(8));
        Bounds.refused(FULL, Bounds.NO_INDEX, "guest(-1) as a thirteenth one", m -> m.guest(-1));
    }

    private static void promise7AsManyAsCapacity() {
        for (int capacity = 1; capacity <= 11; capacity++) {
            int places = capacity;
            Bounds.refused(() -> guests(places, places), Bounds.NO_STATE, "one above " + capacity, m -> m.guest(0));
            Bounds.let(() -> guests(places, places - 1), "the last one of " + capacity, m -> m.guest(0));
            Bounds.let(() -> guests(places, places), "into another room", m -> m.guest(1));
        }
    }

    private static void promise8IndexAheadOfArgument() {
        Bounds.refused(FULL, Bounds.NO_INDEX, "habit(12, 4, 0)", m -> m.habit(12, 4, 0));
        Bounds.refused(FULL, Bounds.NO_INDEX, "habit(-1, -1, 0)", m -> m.habit(-1, -1, 0));
        Bounds.refused(FULL, Bounds.NO_INDEX, "habit(12, 1, 5)", m -> m.habit(12, 1, 5));
        Bounds.refused(FULL, Bounds.NO_ARGUMENT, "habit(0, 4, 5)", m -> m.habit(0, 4, 5));
        Bounds.refused(FULL, Bounds.NO_ARGUMENT, "habit(0, -1, -1)", m -> m.habit(0, -1, -1));
    }

    private static void promise9ArgumentAheadOfState() {
        int[] nows = {540, 560, 599, 600};
        int[] wrong = {61, 62, Integer.MAX_VALUE, 0, -1, Integer.MIN_VALUE};
        for (int now : nows) {
            for (int minutes : wrong) {
                Bounds.refused(() -> passed(Houses.middling(), now), Bounds.NO_ARGUMENT,
                    "pass(" + minutes + ") at " + now, m -> m.pass(minutes));
            }
        }
    }

    private static void promise10CanNotBe() {
        Bounds.refused(MIDDLING, Bounds.NO_STATE, "take of a prop elsewhere", m -> m.take(0, 1));
        Bounds.refused(TAKEN, Bounds.NO_STATE, "take of a prop that another guest HOLDS", m -> m.take(0, 0));
        Bounds.refused(TAKEN, Bounds.NO_STATE, "take of the prop that it HOLDS", m -> m.take(1, 0));
        Bounds.refused(TAKEN, Bounds.NO_STATE, "take of a second one", m -> m.take(1, 2));
        Bounds.refused(IN_SCENE, Bounds.NO_STATE, "take of a prop in a scene", m -> m.take(0, 0));
        Bounds.refused(() -> passed(Houses.single(), 7), Bounds.NO_STATE, "take from a track", m -> m.take(0, 0));
        Bounds.let(() -> passed(Houses.single(), 3), "take ahead of the scene", m -> m.take(0, 0));
    }

    private static void promise10IndexAheadOfState() {
        Bounds.refused(TAKEN, Bounds.NO_INDEX, "take(1, 4)", m -> m.take(1, 4));
        Bounds.refused(TAKEN, Bounds.NO_INDEX, "take(1, -1)", m -> m.take(1, -1));
        Bounds.refused(TAKEN, Bounds.NO_INDEX, "take(12, 0)", m -> m.take(12, 0));
        Bounds.refused(TAKEN, Bounds.NO_INDEX, "take(-1, 0)", m -> m.take(-1, 0));
    }

    private static void promise11HoldsNone() {
        for (int guest = 0; guest < 12; guest++) {
            int one = guest;
            if (guest != 1) {
                Bounds.refused(TAKEN, Bounds.NO_STATE, "leave(" + guest + ")", m -> m.leave(one));
            }
        }
        Supplier<ManorLoops> left = () -> {
            ManorLoops m = taken();
            m.leave(1);
            return m;
        };
        Bounds.refused(left, Bounds.NO_STATE, "leave(1) twice", m -> m.leave(1));
    }

    private static void promise12CanNotBe() {
        Bounds.refused(DOUBLED, Bounds.NO_STATE, "is PLAYED", m -> m.play(0, 2));
        Bounds.refused(DOUBLED, Bounds.NO_STATE, "is PLAYED by it", m -> m.play(0, 1));
        Bounds.refused(DOUBLED, Bounds.NO_STATE, "PLAYS one", m -> m.play(1, 2));
        Bounds.refused(DOUBLED, Bounds.NO_STATE, "PLAYS the other one", m -> m.play(1, 0));
        Bounds.refused(DOUBLED, Bounds.NO_STATE, "by one that PLAYS", m -> m.play(2, 1));
        Bounds.refused(DOUBLED, Bounds.NO_STATE, "by one that is PLAYED", m -> m.play(2, 0));
        Bounds.let(DOUBLED, "by another one", m -> m.play(2, 3));
        Bounds.refused(MIDDLING, Bounds.NO_STATE, "a scene has both", m -> m.play(0, 2));
        Bounds.refused(MIDDLING, Bounds.NO_STATE, "a scene has both, the other way", m -> m.play(2, 0));
        Bounds.refused(MIDDLING, Bounds.NO_STATE, "scenes OVERLAP", m -> m.play(0, 1));
        Bounds.refused(MIDDLING, Bounds.NO_STATE, "scenes OVERLAP, the other way", m -> m.play(1, 0));
        Supplier<ManorLoops> withAnother = () -> withTrack(IN_SCENE.get());
        Bounds.refused(withAnother, Bounds.NO_STATE, "is in a scene", m -> m.play(0, 1));
        Bounds.refused(withAnother, Bounds.NO_STATE, "by one in a scene", m -> m.play(1, 0));
    }

    private static void promise12FirstNamedFirst() {
        Bounds.refused(DOUBLED, Bounds.NO_INDEX, "play(5, 5)", m -> m.play(5, 5));
        Bounds.refused(DOUBLED, Bounds.NO_INDEX, "play(-1, -1)", m -> m.play(-1, -1));
        Bounds.refused(DOUBLED, Bounds.NO_INDEX, "play(0, 5)", m -> m.play(0, 5));
        Bounds.refused(DOUBLED, Bounds.NO_INDEX, "play(5, 0)", m -> m.play(5, 0));
        Bounds.refused(DOUBLED, Bounds.NO_ARGUMENT, "play(0, 0), PLAYED", m -> m.play(0, 0));
        Bounds.refused(DOUBLED, Bounds.NO_ARGUMENT, "play(1, 1), PLAYS", m -> m.play(1, 1));
        Bounds.refused(IN_SCENE, Bounds.NO_ARGUMENT, "play(0, 0), RUNS", m -> m.play(0, 0));
    }

    private static void promise13PlayedByNoneOrRunning() {
        Bounds.refused(CAST, Bounds.NO_STATE, "PLAYED by none", m -> m.part(0));
        Bounds.refused(DOUBLED, Bounds.NO_STATE, "the one that PLAYS", m -> m.part(1));
        Bounds.refused(DOUBLED, Bounds.NO_STATE, "another one", m -> m.part(4));
        Bounds.refused(DOUBLED, Bounds.NO_INDEX, "no such one", m -> m.part(5));
        Bounds.refused(() -> running(1, 0), Bounds.NO_STATE, "the other one is in a scene", m -> m.part(1));
        Bounds.refused(() -> running(0, 1), Bounds.NO_STATE, "it is in a scene", m -> m.part(0));
        Bounds.let(() -> passed(running(1, 0), 3), "the other one was in a scene", m -> m.part(1));
    }

    private static void promises14To20IndexAheadOfWhat() {
        int[] wrong = {-1, 12, Integer.MIN_VALUE, Integer.MAX_VALUE};
        for (int x : wrong) {
            Bounds.refused(FULL, Bounds.NO_INDEX, "ofRoom " + x, m -> m.ofRoom(x, x));
            Bounds.refused(FULL, Bounds.NO_INDEX, "way from " + x, m -> m.way(x, 0, x));
            Bounds.refused(FULL, Bounds.NO_INDEX, "way to " + x, m -> m.way(0, x, x));
            Bounds.refused(FULL, Bounds.NO_INDEX, "ofTrack " + x, m -> m.ofTrack(x, x));
            Bounds.refused(FULL, Bounds.NO_INDEX, "ofScene " + x, m -> m.ofScene(x, x == 12 ? 11 : x));
            Bounds.refused(FULL, Bounds.NO_INDEX, "ofGuest " + x, m -> m.ofGuest(x, x));
            Bounds.refused(FULL, Bounds.NO_INDEX, "ofProp " + x, m -> m.ofProp(x, x));
            Bounds.refused(FULL, Bounds.NO_INDEX, "seen " + x, m -> m.seen(x, x));
        }
    }

    private static void promises23To24IndexAheadOfMinutes() {
        int[] wrong = {0, 41, -1, Integer.MIN_VALUE, Integer.MAX_VALUE};
        for (int minutes : wrong) {
            Bounds.refused(FULL, Bounds.NO_INDEX, "wouldKnow(12, " + minutes + ")", m -> m.wouldKnow(12, minutes));
            Bounds.refused(FULL, Bounds.NO_INDEX, "wouldKnow(-1, " + minutes + ")", m -> m.wouldKnow(-1, minutes));
            Bounds.refused(FULL, Bounds.NO_INDEX, "bestHabit(12, " + minutes + ")", m -> m.bestHabit(12, minutes));
            Bounds.refused(FULL, Bounds.NO_INDEX, "bestHabit(-1, " + minutes + ")", m -> m.bestHabit(-1, minutes));
        }
    }

    private static ManorLoops passed(ManorLoops m, int minutes) {
        for (int left = minutes; left > 0; left -= 60) {
            m.pass(Math.min(60, left));
        }
        return m;
    }

    /** Two rooms, three tracks, two props, and a scene of tracks 0 and 1 in the minutes 4 to 7. */
    private static ManorLoops stage() {
        ManorLoops m = Houses.line(2, 4);
        m.track(0);
        m.track(0);
        m.track(1);
        m.prop(0);
        m.prop(1);
        m.scene(0, 4, 4, 3, -1);
        return m;
    }

    /** One scene after the other, of a minute each. */
    private static ManorLoops scenes(int count) {
        ManorLoops m = Houses.rooms(1, 4);
        m.track(0);
        for (int scene = 0; scene < count; scene++) {
            m.scene(0, scene, 1, 1, -1);
        }
        return m;
    }

    private static ManorLoops doubled() {
        ManorLoops m = Houses.cast(4);
        m.play(0, 1);
        return m;
    }

    /** Track 0 in a scene that runs, and who plays it or is played by it in none. */
    private static ManorLoops running(int played, int by) {
        ManorLoops m = Houses.single();
        m.track(0);
        m.play(played, by);
        return passed(m, 4);
    }

    private static ManorLoops withTrack(ManorLoops m) {
        m.track(0);
        return m;
    }

    private static ManorLoops guests(int capacity, int count) {
        ManorLoops m = Houses.rooms(2, capacity);
        for (int guest = 0; guest < count; guest++) {
            m.guest(0);
        }
        return m;
    }

    /** Twelve guests in one room with four props; guest 1 holds prop 0. */
    private static ManorLoops taken() {
        ManorLoops m = Houses.crowd();
        m.take(1, 0);
        return m;
    }
}
