/** Promises 1 to 8: a new object, and what is told. */
public final class TellingTest {
    private static final int[] WILD = {-1, -2, Integer.MIN_VALUE, Integer.MAX_VALUE};

    public static void main(String[] args) {
        Check.runAll(TellingTest.class);
    }

    private static void promise1NewObject() {
        ManorLoops m = new ManorLoops();
        for (int what = 0; what <= 12; what++) {
            Check.same("new many(" + what + ")", m.many(what), 0);
        }
        Check.sameDouble("new meanKnown", m.meanKnown(), 0.0);
        Check.noIndex(m, "new ofRoom", () -> m.ofRoom(0, 0));
        Check.noIndex(m, "new ofTrack", () -> m.ofTrack(0, 0));
        Check.noIndex(m, "new ofScene", () -> m.ofScene(0, 0));
        Check.noIndex(m, "new ofGuest", () -> m.ofGuest(0, 0));
        Check.noIndex(m, "new ofProp", () -> m.ofProp(0, 0));
        Check.same("new pass(60)", m.pass(60), 0);
        Check.same("two objects share nothing", new ManorLoops().many(0), 0);
    }

    private static void promise2Room() {
        ManorLoops m = new ManorLoops();
        Check.same("room(1)", m.room(1), 0);
        Check.same("room(30)", m.room(30), 1);
        Check.same("capacity 0", m.ofRoom(0, 0), 1);
        Check.same("capacity 1", m.ofRoom(1, 0), 30);
        Check.same("rooms", m.many(1), 2);
        Check.noArgument(m, "room(0)", () -> m.room(0));
        Check.noArgument(m, "room(31)", () -> m.room(31));
        for (int wild : WILD) {
            Check.noArgument(m, "room " + wild, () -> m.room(wild));
        }
        Check.same("rooms after refusals", m.many(1), 2);
    }

    private static void promise2RoomOrder() {
        ManorLoops m = Houses.rooms(8, 2);
        Check.noState(m, "room nine", () -> m.room(3));
        Check.noArgument(m, "room nine with capacity 0", () -> m.room(0));
        Check.same("rooms", m.many(1), 8);
    }

    private static void promise3Door() {
        ManorLoops m = Houses.rooms(4, 3);
        Check.same("first door", m.door(0, 1, 1), 1);
        Check.same("second door", m.door(2, 1, 6), 2);
        Check.same("doors", m.many(2), 2);
        Check.noIndex(m, "door to 4", () -> m.door(0, 4, 1));
        Check.noIndex(m, "door from 4", () -> m.door(4, 0, 1));
        for (int wild : WILD) {
            Check.noIndex(m, "door to " + wild, () -> m.door(0, wild, 1));
            Check.noIndex(m, "door from " + wild, () -> m.door(wild, 0, 1));
            Check.noArgument(m, "width " + wild, () -> m.door(2, 3, wild));
        }
        Check.noIndex(m, "no room ahead of the same", () -> m.door(4, 4, 1));
        Check.noIndex(m, "no room ahead of width", () -> m.door(0, 4, 0));
        Check.noArgument(m, "the same room", () -> m.door(3, 3, 1));
        Check.noArgument(m, "width 0", () -> m.door(2, 3, 0));
        Check.noArgument(m, "width 7", () -> m.door(2, 3, 7));
        Check.noState(m, "the door again", () -> m.door(0, 1, 2));
        Check.noState(m, "the door the other way", () -> m.door(1, 0, 2));
        Check.noArgument(m, "width ahead of the door again", () -> m.door(0, 1, 7));
        Check.same("doors after refusals", m.many(2), 2);
    }

    private static void promise3DoorLimit() {
        ManorLoops m = Houses.rooms(8, 3);
        int doors = 0;
        for (int one = 0; one < 8; one++) {
            for (int other = one + 1; other < 8 && doors < 14; other++) {
                doors++;
                Check.same("door " + doors, m.door(one, other, 1), doors);
            }
        }
        Check.noState(m, "door fifteen", () -> m.door(6, 7, 1));
        Check.noArgument(m, "door fifteen with width 7", () -> m.door(6, 7, 7));
        Check.noArgument(m, "door fifteen in one room", () -> m.door(6, 6, 1));
        Check.noIndex(m, "door fifteen to no room", () -> m.door(6, 8, 1));
        Check.same("doors", m.many(2), 14);
    }

    private static void promise4Track() {
        ManorLoops m = Houses.rooms(2, 3);
        for (int track = 0; track < 5; track++) {
            Check.noIndex(m, "track in room 2", () -> m.track(2));
            Check.same("track", m.track(track % 2), track);
            Check.same("room of the track", m.ofTrack(track, 0), track % 2);
            Check.same("tracks", m.many(3), track + 1);
        }
        Check.noState(m, "track six", () -> m.track(0));
        for (int wild : WILD) {
            Check.noIndex(m, "track six in room " + wild, () -> m.track(wild));
        }
        Check.same("tracks after refusals", m.many(3), 5);
    }

    private static void promise5Prop() {
        ManorLoops m = Houses.rooms(2, 3);
        for (int prop = 0; prop < 4; prop++) {
            Check.noIndex(m, "prop in room 2", () -> m.prop(2));
            Check.same("prop", m.prop(prop % 2), prop);
            Check.same("home of the prop", m.ofProp(prop, 0), prop % 2);
            Check.same("room of the prop", m.ofProp(prop, 1), prop % 2);
            Check.same("props", m.many(5), prop + 1);
        }
        Check.noState(m, "prop five", () -> m.prop(0));
        for (int wild : WILD) {
            Check.noIndex(m, "prop five in room " + wild, () -> m.prop(wild));
        }
        Check.same("props after refusals", m.many(5), 4);
    }

    private static void promise6SceneAnswers() {
        ManorLoops m = stage();
        Check.same("scene 0", m.scene(1, 0, 8, 3, 1), 0);
        Check.same("scene 1", m.scene(0, 18, 2, 4, -1), 1);
        Check.same("scene 2", m.scene(0, 12, 8, 1, 0), 2);
        Check.same("scenes", m.many(4), 3);
        long[] due = {1, 0, 8, 3, 1, 0, 0, 0, 0, 0, 0};
        for (int what = 0; what <= 10; what++) {
            Check.same("ofScene(0, " + what + ")", m.ofScene(0, what), due[what]);
        }
        Check.same("no prop", m.ofScene(1, 4), -1);
    }

    private static void promise6SceneWrong() {
        ManorLoops m = stage();
        Check.noIndex(m, "room 2", () -> m.scene(2, 0, 1, 1, -1));
        Check.noIndex(m, "prop 2", () -> m.scene(0, 0, 1, 1, 2));
        Check.noIndex(m, "prop -2", () -> m.scene(0, 0, 1, 1, -2));
        for (int wild : WILD) {
            Check.noIndex(m, "room " + wild, () -> m.scene(wild, 0, 1, 1, -1));
            Check.noArgument(m, "start " + wild, () -> m.scene(0, wild, 1, 1, -1));
            Check.noArgument(m, "length " + wild, () -> m.scene(0, 0, wild, 1, -1));
            Check.noArgument(m, "tracks " + wild, () -> m.scene(0, 0, 1, wild, -1));
        }
        Check.noIndex(m, "prop least", () -> m.scene(0, 0, 1, 1, Integer.MIN_VALUE));
        Check.noIndex(m, "prop most", () -> m.scene(0, 0, 1, 1, Integer.MAX_VALUE));
        Check.noArgument(m, "start 19", () -> m.scene(0, 19, 1, 1, -1));
        Check.noArgument(m, "length 0", () -> m.scene(0, 0, 0, 1, -1));
        Check.noArgument(m, "length 9", () -> m.scene(0, 0, 9, 1, -1));
        Check.noArgument(m, "18 and 3", () -> m.scene(0, 18, 3, 1, -1));
        Check.noArgument(m, "13 and 8", () -> m.scene(0, 13, 8, 1, -1));
        Check.noArgument(m, "no tracks", () -> m.scene(0, 0, 1, 0, -1));
        Check.noArgument(m, "track 3", () -> m.scene(0, 0, 1, 8, -1));
        Check.noArgument(m, "tracks 0 and 3", () -> m.scene(0, 0, 1, 9, -1));
        Check.same("scenes after refusals", m.many(4), 0);
        Check.same("the first one", m.scene(0, 0, 1, 7, -1), 0);
    }

    private static void promise6SceneOverlap() {
        ManorLoops m = stage();
        m.scene(0, 4, 4, 3, -1);
        Check.noState(m, "from its last minute on", () -> m.scene(1, 7, 2, 1, -1));
        Check.noState(m, "to its first minute", () -> m.scene(1, 2, 3, 2, -1));
        Check.noState(m, "inside", () -> m.scene(1, 5, 1, 6, -1));
        Check.noState(m, "around", () -> m.scene(1, 2, 8, 1, -1));
        Check.same("ahead of it", m.scene(1, 1, 3, 1, -1), 1);
        Check.same("behind it", m.scene(1, 8, 3, 3, -1), 2);
        Check.same("with other tracks", m.scene(1, 4, 4, 4, -1), 3);
    }

    private static void promise6SceneState() {
        ManorLoops late = stage();
        late.scene(0, 0, 1, 1, -1);
        late.pass(1);
        Check.noState(late, "scene at NOW 1", () -> late.scene(0, 10, 1, 1, -1));
        late.pass(19);
        Check.noState(late, "scene at NOW 20", () -> late.scene(0, 10, 1, 1, -1));

        ManorLoops many = stage();
        for (int scene = 0; scene < 12; scene++) {
            Check.same("scene", many.scene(0, scene, 1, 1, -1), scene);
        }
        Check.noState(many, "scene thirteen", () -> many.scene(0, 15, 1, 1, -1));
        Check.noArgument(many, "scene thirteen with length 0", () -> many.scene(0, 15, 0, 1, -1));

        ManorLoops doubled = stage();
        for (int played = 0; played < 3; played++) {
            doubled.play(played, (played + 1) % 3);
            Check.noState(doubled, "with one played: " + played, () -> doubled.scene(0, 0, 1, 1, -1));
            Check.noState(doubled, "with one played: " + played, () -> doubled.scene(0, 0, 1, 4, -1));
            doubled.part(played);
        }
        Check.same("parted", doubled.scene(0, 0, 1, 1, -1), 0);
    }

    private static void promise6SceneOrder() {
        ManorLoops m = stage();
        m.scene(0, 4, 4, 3, -1);
        Check.noIndex(m, "room ahead of start", () -> m.scene(2, 19, 1, 1, -1));
        Check.noIndex(m, "prop ahead of tracks", () -> m.scene(0, 4, 1, 0, 2));
        Check.noIndex(m, "prop ahead of overlap", () -> m.scene(0, 4, 1, 1, 2));
        Check.noArgument(m, "length ahead of overlap", () -> m.scene(0, 4, 9, 1, -1));
        m.pass(1);
        Check.noArgument(m, "start ahead of NOW", () -> m.scene(0, -1, 1, 1, -1));
        Check.noIndex(m, "room ahead of NOW", () -> m.scene(-1, 0, 1, 1, -1));
    }

    private static void promise7Guest() {
        ManorLoops m = Houses.rooms(2, 2);
        Check.same("guest", m.guest(1), 0);
        Check.same("guest", m.guest(1), 1);
        Check.same("guest room", m.ofGuest(1, 0), 1);
        Check.same("guest habit", m.ofGuest(1, 1), 0);
        Check.same("guest follows", m.ofGuest(1, 2), -1);
        Check.same("guest holds", m.ofGuest(1, 3), -1);
        Check.noState(m, "a full room", () -> m.guest(1));
        Check.noIndex(m, "room 2", () -> m.guest(2));
        for (int wild : WILD) {
            Check.noIndex(m, "room " + wild, () -> m.guest(wild));
        }
        Check.same("guests", m.many(6), 2);
        m.pass(7);
        Check.same("a guest comes later", m.guest(0), 2);
    }

    private static void promise7GuestLimit() {
        ManorLoops m = Houses.rooms(2, 30);
        for (int guest = 0; guest < 12; guest++) {
            Check.same("guest", m.guest(guest % 2), guest);
        }
        Check.noState(m, "guest thirteen", () -> m.guest(0));
        Check.noIndex(m, "guest thirteen in no room", () -> m.guest(2));
        Check.same("guests", m.many(6), 12);
    }

    private static void promise8Habit() {
        ManorLoops m = Houses.rooms(2, 2);
        m.track(0);
        m.track(1);
        m.guest(0);
        Check.same("to follow", m.habit(0, 1, 1), 0);
        Check.same("follows", m.ofGuest(0, 2), 1);
        Check.same("to follow another one", m.habit(0, 1, 0), 1);
        Check.same("follows the other one", m.ofGuest(0, 2), 0);
        Check.same("to seek, with no track", m.habit(0, 3, 99), 1);
        Check.same("seeks", m.ofGuest(0, 1), 3);
        Check.same("follows none", m.ofGuest(0, 2), -1);
        Check.same("to wander", m.habit(0, 2, -5), 3);
        Check.same("to stay", m.habit(0, 0, 0), 2);
        Check.same("stays", m.ofGuest(0, 1), 0);
        Check.noIndex(m, "guest 1", () -> m.habit(1, 0, 0));
        Check.noIndex(m, "to follow 2", () -> m.habit(0, 1, 2));
        Check.noArgument(m, "habit 4", () -> m.habit(0, 4, 0));
        Check.noArgument(m, "habit 4 with no track", () -> m.habit(0, 4, 9));
        Check.noIndex(m, "guest ahead of habit", () -> m.habit(1, 4, 0));
        for (int wild : WILD) {
            Check.noIndex(m, "guest " + wild, () -> m.habit(wild, 0, 0));
            Check.noIndex(m, "to follow " + wild, () -> m.habit(0, 1, wild));
            Check.noArgument(m, "habit " + wild, () -> m.habit(0, wild, 0));
        }
        Check.same("stays after refusals", m.ofGuest(0, 1), 0);
    }

    /** Two rooms with a door, three tracks, two props. */
    private static ManorLoops stage() {
        ManorLoops m = Houses.rooms(2, 4);
        m.door(0, 1, 2);
        m.track(0);
        m.track(0);
        m.track(1);
        m.prop(0);
        m.prop(1);
        return m;
    }
}
