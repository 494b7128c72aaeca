import java.util.function.Supplier;

/** Promises 1 to 27 on an object with nothing in it, and on houses in which one thing or another is missing. */
public final class EmptyTest {
    private static final Supplier<ManorLoops> EMPTY = ManorLoops::new;
    private static final Supplier<ManorLoops> ROOM = () -> Houses.rooms(1, 2);
    private static final int[] NUMBERS = {0, 1, -1, Integer.MIN_VALUE, Integer.MAX_VALUE};

    public static void main(String[] args) {
        Check.runAll(EmptyTest.class);
    }

    private static void promise1NothingIsThere() {
        ManorLoops m = new ManorLoops();
        for (int what = 0; what <= 12; what++) {
            Check.same("many(" + what + ")", m.many(what), 0);
        }
    }

    private static void promise1ObjectsShareNothing() {
        ManorLoops one = Houses.full();
        one.pass(60);
        ManorLoops other = new ManorLoops();
        Check.same("digest of a new object beside a full one", other.digest(), new ManorLoops().digest());
        long before = one.digest();
        other.room(9);
        other.track(0);
        other.pass(5);
        Check.same("digest of the full one behind calls of the other", one.digest(), before);
    }

    private static void promises3To7NoRoomIsThere() {
        for (int x : NUMBERS) {
            Bounds.refused(EMPTY, Bounds.NO_INDEX, "door " + x, m -> m.door(x, 0, 1));
            Bounds.refused(EMPTY, Bounds.NO_INDEX, "door to " + x, m -> m.door(0, x, 0));
            Bounds.refused(EMPTY, Bounds.NO_INDEX, "track " + x, m -> m.track(x));
            Bounds.refused(EMPTY, Bounds.NO_INDEX, "prop " + x, m -> m.prop(x));
            Bounds.refused(EMPTY, Bounds.NO_INDEX, "scene " + x, m -> m.scene(x, 0, 1, 1, -1));
            Bounds.refused(EMPTY, Bounds.NO_INDEX, "scene, all wrong, " + x, m -> m.scene(x, 19, 9, 0, 0));
            Bounds.refused(EMPTY, Bounds.NO_INDEX, "guest " + x, m -> m.guest(x));
        }
    }

    private static void promises8To13NobodyIsThere() {
        for (int x : NUMBERS) {
            Bounds.refused(ROOM, Bounds.NO_INDEX, "habit " + x, m -> m.habit(x, 0, 0));
            Bounds.refused(ROOM, Bounds.NO_INDEX, "habit, all wrong, " + x, m -> m.habit(x, 4, 0));
            Bounds.refused(ROOM, Bounds.NO_INDEX, "take " + x, m -> m.take(x, 0));
            Bounds.refused(ROOM, Bounds.NO_INDEX, "leave " + x, m -> m.leave(x));
            Bounds.refused(ROOM, Bounds.NO_INDEX, "play " + x, m -> m.play(x, 1));
            Bounds.refused(ROOM, Bounds.NO_INDEX, "play by " + x, m -> m.play(x, x));
            Bounds.refused(ROOM, Bounds.NO_INDEX, "part " + x, m -> m.part(x));
        }
    }

    private static void promises14To26NobodyIsThere() {
        for (int x : NUMBERS) {
            Bounds.refused(EMPTY, Bounds.NO_INDEX, "ofRoom " + x, m -> m.ofRoom(x, x));
            Bounds.refused(EMPTY, Bounds.NO_INDEX, "way from " + x, m -> m.way(x, 0, x));
            Bounds.refused(EMPTY, Bounds.NO_INDEX, "way to " + x, m -> m.way(0, x, 0));
            Bounds.refused(ROOM, Bounds.NO_INDEX, "ofTrack " + x, m -> m.ofTrack(x, x));
            Bounds.refused(ROOM, Bounds.NO_INDEX, "ofScene " + x, m -> m.ofScene(x, x));
            Bounds.refused(ROOM, Bounds.NO_INDEX, "ofGuest " + x, m -> m.ofGuest(x, x));
            Bounds.refused(ROOM, Bounds.NO_INDEX, "ofProp " + x, m -> m.ofProp(x, x));
            Bounds.refused(ROOM, Bounds.NO_INDEX, "seen " + x, m -> m.seen(x, 0));
            Bounds.refused(ROOM, Bounds.NO_INDEX, "wouldKnow " + x, m -> m.wouldKnow(x, 1));
            Bounds.refused(ROOM, Bounds.NO_INDEX, "bestHabit " + x, m -> m.bestHabit(x, 1));
            Bounds.refused(ROOM, Bounds.NO_INDEX, "doubles " + x, m -> m.doubles(x));
        }
    }

    private static void promise6ThereAreNoTracksAndNoProps() {
        Bounds.refused(ROOM, Bounds.NO_ARGUMENT, "scene of track 0", m -> m.scene(0, 0, 1, 1, -1));
        Bounds.refused(ROOM, Bounds.NO_ARGUMENT, "scene of none", m -> m.scene(0, 0, 1, 0, -1));
        Bounds.refused(ROOM, Bounds.NO_INDEX, "scene with prop 0", m -> m.scene(0, 0, 1, 1, 0));
    }

    private static void promise8ThereIsNoTrackToFollow() {
        Supplier<ManorLoops> alone = () -> {
            ManorLoops m = Houses.rooms(1, 2);
            m.guest(0);
            return m;
        };
        for (int x : NUMBERS) {
            Bounds.refused(alone, Bounds.NO_INDEX, "to follow " + x, m -> m.habit(0, 1, x));
        }
        Bounds.refused(alone, Bounds.NO_INDEX, "take of prop 0", m -> m.take(0, 0));
        Bounds.refused(alone, Bounds.NO_INDEX, "seen of scene 0", m -> m.seen(0, 0));
    }

    private static void promise9MinutesGoByInAnEmptyHouse() {
        ManorLoops m = new ManorLoops();
        for (int i = 1; i <= 10; i++) {
            Check.same("pass(60)", m.pass(60), 0);
            Check.same("NOW", m.many(0), 60 * i);
        }
        Check.noState(m, "pass(1) at 600", () -> m.pass(1));
        for (int what = 1; what <= 12; what++) {
            Check.same("many(" + what + ")", m.many(what), 0);
        }
    }

    private static void promise9AllIsToldBehindTheFirstMinuteButScenes() {
        ManorLoops m = new ManorLoops();
        for (int i = 0; i < 10; i++) {
            m.pass(60);
        }
        Check.same("room at 600", m.room(2), 0);
        Check.same("room at 600", m.room(2), 1);
        Check.same("door at 600", m.door(0, 1, 1), 1);
        Check.same("track at 600", m.track(1), 0);
        Check.same("prop at 600", m.prop(1), 0);
        Check.same("guest at 600", m.guest(1), 0);
        Check.same("habit at 600", m.habit(0, 1, 0), 0);
        Check.same("take at 600", m.take(0, 0), 1);
        Check.same("leave at 600", m.leave(0), 0);
        Check.noState(m, "scene at 600", () -> m.scene(0, 0, 1, 1, -1));
    }

    private static void promise9GuestsWithoutScenesTracksAndDoors() {
        ManorLoops m = Houses.rooms(2, 3);
        for (int guest = 0; guest < 3; guest++) {
            m.guest(0);
        }
        m.habit(1, 2, 0);
        m.habit(2, 3, 0);
        m.pass(60);
        for (int guest = 0; guest < 3; guest++) {
            Check.same("stays " + guest, m.ofGuest(guest, 0), 0);
            Check.same("no doors " + guest, m.ofGuest(guest, 5), 0);
            Check.same("not blocked " + guest, m.ofGuest(guest, 6), 0);
        }
    }

    private static void promise14EmptyRoom() {
        ManorLoops m = Houses.rooms(1, 2);
        Check.same("capacity", m.ofRoom(0, 0), 2);
        for (int what = 1; what <= 4; what++) {
            Check.same("ofRoom(0, " + what + ")", m.ofRoom(0, what), 0);
        }
    }

    private static void promise16TrackWithoutScenes() {
        ManorLoops m = Houses.rooms(1, 2);
        m.track(0);
        int[] due = {0, -1, -1, -1, 0};
        for (int what = 0; what <= 4; what++) {
            Check.same("ofTrack(0, " + what + ")", m.ofTrack(0, what), due[what]);
        }
    }

    private static void promise21ScenesThatNobodyKnowsWithoutGuests() {
        ManorLoops m = Houses.rooms(1, 2);
        m.track(0);
        m.scene(0, 1, 1, 1, -1);
        m.scene(0, 2, 1, 1, -1);
        m.pass(10);
        Check.same("nobody knows both", m.many(11), 2);
        Check.same("nobody knows it", m.ofScene(0, 10), 0);
        Check.same("done all the same", m.many(8), 2);
    }

    private static void promise22MeanWithoutGuests() {
        Check.sameDouble("without all", new ManorLoops().meanKnown(), 0.0);
        Check.sameDouble("without scenes", Houses.rooms(1, 2).meanKnown(), 0.0);
        ManorLoops m = Houses.rooms(1, 2);
        m.guest(0);
        Check.sameDouble("with a guest", m.meanKnown(), 0.0);
    }

    private static void promises23To25WithoutScenes() {
        ManorLoops m = Houses.rooms(1, 2);
        m.guest(0);
        Check.same("wouldKnow", m.wouldKnow(0, 40), 0);
        Check.same("bestHabit", m.bestHabit(0, 40), 0);
        Check.same("wouldCut", m.wouldCut(40), 0);
        Check.same("wouldCut in an empty house", new ManorLoops().wouldCut(40), 0);
    }

    private static void promise26OneTrack() {
        ManorLoops m = Houses.rooms(1, 2);
        m.track(0);
        Check.same("by none, not by itself", m.doubles(0), 0);
    }

    private static void promise27OfAnEmptyHouse() {
        long d = 9103;
        for (int what = 0; what <= 12; what++) {
            d = d * 31;
        }
        Check.same("digest", new ManorLoops().digest(), d * 31);
    }
}
