/** Promise 9: where a LOOP ends and the next one begins, the order of a minute's steps, and the edges in them. */
public final class LoopTest {
    private static final int WAITS = 0;
    private static final int RUNS = 1;
    private static final int DONE = 2;
    private static final int CUT = 3;

    public static void main(String[] args) {
        Check.runAll(LoopTest.class);
    }

    // ---- where a LOOP ends

    private static void promise9LoopIsTwentyMinutes() {
        ManorLoops m = Houses.rooms(1, 1);
        m.track(0);
        m.scene(0, 0, 1, 1, -1);
        m.scene(0, 1, 1, 1, -1);
        for (int now = 1; now <= 160; now++) {
            m.pass(1);
            int minute = now % 20;
            int first = minute == 0 || now == 1 ? RUNS : DONE;
            int second = minute == 0 || now == 1 ? WAITS : minute == 1 || now == 2 ? RUNS : DONE;
            Check.same("at " + now + " the one from 0 on", state(m, 0), first);
            Check.same("at " + now + " the one from 1 on", state(m, 1), second);
        }
    }

    private static void promise9LastMinuteOfAll() {
        ManorLoops m = Houses.rooms(1, 1);
        m.track(0);
        m.prop(0);
        m.scene(0, 18, 2, 1, 0);
        m.guest(0);
        for (int i = 0; i < 9; i++) {
            m.pass(60);
        }
        m.pass(59);
        Check.same("RUNS at 599", state(m, 0), RUNS);
        Check.same("one minute LEFT", m.ofScene(0, 6), 1);
        Check.same("seen at 599", m.seen(0, 0), 2);
        Check.same("nothing is DONE", m.pass(1), 0);
        Check.same("WAITS at 600", state(m, 0), WAITS);
        Check.same("CUT 30 times", m.ofScene(0, 9), 30);
        Check.same("seen at 600", m.seen(0, 0), 0);
    }

    /** With START and LENGTH 20 together it is never DONE; with 19, in the last minute of the LOOP. */
    private static void promise9TwentyTogetherIsCut() {
        for (int length = 2; length <= 8; length++) {
            ManorLoops m = Houses.rooms(1, 1);
            m.track(0);
            m.track(0);
            m.scene(0, 20 - length, length, 1, -1);
            m.scene(0, 19 - length, length, 2, -1);
            m.pass(19);
            Check.same("of length " + length + " RUNS at 19", state(m, 0), RUNS);
            Check.same("of length " + length + " has one minute LEFT", m.ofScene(0, 6), 1);
            Check.same("of length " + length + " is DONE at 19", state(m, 1), DONE);
            m.pass(1);
            Check.same("of length " + length + " DONE ever", m.ofScene(0, 8), 0);
            Check.same("of length " + length + " CUT ever", m.ofScene(0, 9), 1);
            Check.same("of length " + length + " LEFT", m.ofScene(0, 6), 0);
            Check.same("the other of length " + length + " CUT ever", m.ofScene(1, 9), 0);
            Check.same("the other of length " + length + " DONE ever", m.ofScene(1, 8), 1);
        }
    }

    private static void promise9LateOverTheEndIsCut() {
        ManorLoops late = Houses.rooms(2, 1);
        late.track(0);
        late.scene(1, 11, 8, 1, -1);
        late.pass(10);
        late.door(0, 1, 1);
        late.pass(1);
        Check.same("there in time", late.ofTrack(0, 0), 1);
        Check.same("RUNS", state(late, 0), RUNS);
        late.pass(8);
        Check.same("DONE at 19", state(late, 0), DONE);

        ManorLoops later = Houses.rooms(2, 1);
        later.track(0);
        later.scene(1, 11, 8, 1, -1);
        later.pass(11);
        Check.same("LATE", later.ofScene(0, 7), 1);
        later.door(0, 1, 1);
        later.pass(8);
        Check.same("RUNS at 19", state(later, 0), RUNS);
        Check.same("one minute LEFT", later.ofScene(0, 6), 1);
        later.pass(1);
        Check.same("CUT at 20", later.ofScene(0, 9), 1);
        Check.same("never DONE", later.ofScene(0, 8), 0);
    }

    private static void promise9LateNearTheEnd() {
        ManorLoops m = Houses.rooms(2, 1);
        m.track(0);
        m.scene(1, 18, 1, 1, -1);
        int[][] due = {{17, 0, 0}, {18, 1, 0}, {19, 2, 0}, {20, 0, 1}, {37, 0, 1}, {38, 1, 1}, {40, 0, 2}};
        for (int[] line : due) {
            m.pass(line[0] - m.many(0));
            Check.same("LATE at " + line[0], m.ofScene(0, 7), line[1]);
            Check.same("CUT ever at " + line[0], m.ofScene(0, 9), line[2]);
            Check.same("WAITS at " + line[0], state(m, 0), WAITS);
        }
        Check.same("LATE ever", m.many(10), 4);
    }

    private static void promise9FiveLateIsCutFourIsNot() {
        for (int rooms = 2; rooms <= 8; rooms++) {
            ManorLoops m = Houses.line(rooms, 1);
            m.track(0);
            m.scene(rooms - 1, 1, 1, 1, -1);
            int late = rooms - 2;
            m.pass(rooms - 1);
            Check.same("LATE with " + rooms + " rooms", m.ofScene(0, 7), Math.min(late, 5));
            Check.same("with " + rooms + " rooms", state(m, 0), late < 5 ? RUNS : CUT);
            Check.same("CUT ever with " + rooms + " rooms", m.many(9), late < 5 ? 0 : 1);
            m.pass(1);
            Check.same("LATE stays with " + rooms + " rooms", m.ofScene(0, 7), Math.min(late, 5));
        }
    }

    private static void promise9CutIsCutUntilTheLoopEnds() {
        ManorLoops m = Houses.rooms(2, 1);
        m.track(0);
        m.scene(1, 1, 1, 1, -1);
        m.pass(5);
        Check.same("CUT", state(m, 0), CUT);
        m.door(0, 1, 1);
        m.pass(14);
        Check.same("CUT at 19", state(m, 0), CUT);
        Check.same("nobody goes there", m.ofTrack(0, 4), 0);
        m.pass(1);
        Check.same("WAITS at 20", state(m, 0), WAITS);
        Check.same("CUT once", m.ofScene(0, 9), 1);
        Check.same("it goes there", m.ofTrack(0, 0), 1);
    }

    // ---- the order of the steps

    private static void promise9NowIsOneMoreFirst() {
        ManorLoops m = Houses.rooms(1, 1);
        m.track(0);
        m.track(0);
        m.scene(0, 1, 1, 1, -1);
        m.scene(0, 2, 1, 2, -1);
        m.pass(1);
        Check.same("START of 1 in the first minute", state(m, 0), RUNS);
        Check.same("START of 2 in the first minute", state(m, 1), WAITS);
        Check.same("is not LATE ahead of its START", m.ofScene(1, 7), 0);
    }

    private static void promise9LoopEndsAheadOfTracks() {
        ManorLoops m = Houses.line(2, 1);
        m.track(0);
        m.scene(1, 18, 2, 1, -1);
        m.scene(0, 5, 1, 1, -1);
        m.pass(19);
        Check.same("in the scene", m.ofTrack(0, 0), 1);
        m.pass(1);
        Check.same("goes as the scene is CUT", m.ofTrack(0, 0), 0);
    }

    private static void promise9LoopEndsAheadOfScenes() {
        ManorLoops m = Houses.rooms(1, 1);
        m.track(0);
        m.track(0);
        m.prop(0);
        m.scene(0, 0, 1, 1, 0);
        m.scene(0, 5, 1, 3, 0);
        m.pass(19);
        Check.same("HELD by the other track", m.ofProp(0, 2), 1);
        m.pass(1);
        Check.same("its prop lies, so it RUNS at once", state(m, 0), RUNS);
        Check.same("it is not LATE", m.ofScene(0, 7), 0);
    }

    private static void promise9LoopEndsAheadOfSeeing() {
        ManorLoops m = Houses.rooms(1, 1);
        m.track(0);
        m.scene(0, 0, 2, 1, -1);
        m.guest(0);
        m.pass(20);
        Check.same("one minute of the new LOOP", m.seen(0, 0), 1);
    }

    private static void promise9TracksAheadOfScenes() {
        ManorLoops m = Houses.line(2, 1);
        m.track(0);
        m.scene(1, 1, 1, 1, -1);
        m.pass(1);
        Check.same("comes", m.ofTrack(0, 0), 1);
        Check.same("RUNS as it comes", state(m, 0), RUNS);
        m.pass(1);
        Check.same("DONE", state(m, 0), DONE);
        Check.same("is there still as it is DONE", m.ofTrack(0, 0), 1);
        m.pass(1);
        Check.same("goes a minute later", m.ofTrack(0, 0), 0);
    }

    private static void promise9TracksAheadOfGuests() {
        ManorLoops m = Houses.line(3, 1);
        m.track(0);
        m.scene(2, 5, 1, 1, -1);
        m.guest(1);
        m.habit(0, 1, 0);
        m.pass(1);
        Check.same("it comes to the guest", m.ofTrack(0, 0), 1);
        Check.same("the guest stays", m.ofGuest(0, 5), 0);
    }

    private static void promise9ScenesAheadOfGuests() {
        ManorLoops m = Houses.line(2, 1);
        m.track(1);
        m.scene(1, 1, 2, 1, -1);
        m.guest(0);
        m.habit(0, 3, 0);
        ManorLoops other = Houses.line(2, 1);
        other.track(1);
        other.scene(1, 1, 2, 1, -1);
        other.guest(0);
        m.pass(1);
        Check.same("seeks what begins in this minute", m.ofGuest(0, 0), 1);
        other.pass(2);
        other.habit(0, 3, 0);
        other.pass(1);
        Check.same("DONE in this minute", state(other, 0), DONE);
        Check.same("does not seek what is DONE in this minute", other.ofGuest(0, 0), 0);
    }

    private static void promise9GuestsAheadOfSeeing() {
        ManorLoops m = Houses.line(2, 3);
        m.track(0);
        m.track(1);
        m.scene(0, 1, 8, 1, -1);
        m.guest(0);
        m.guest(1);
        m.habit(0, 1, 1);
        m.habit(1, 1, 0);
        m.pass(1);
        Check.same("who leaves does not see", m.seen(0, 0), 0);
        Check.same("who comes sees", m.seen(1, 0), 1);
    }

    private static void promise9ScenesAheadOfSeeing() {
        ManorLoops m = Houses.rooms(1, 1);
        m.track(0);
        m.scene(0, 1, 3, 1, -1);
        m.guest(0);
        int[] due = {1, 2, 3, 3, 3};
        for (int minute = 0; minute < due.length; minute++) {
            m.pass(1);
            Check.same("seen at " + (minute + 1), m.seen(0, 0), due[minute]);
        }
    }

    private static void promise9SceneBySceneByNumber() {
        ManorLoops m = Houses.rooms(1, 1);
        m.track(0);
        m.prop(0);
        m.scene(0, 2, 1, 1, 0);
        m.scene(0, 3, 1, 1, 0);
        m.pass(3);
        Check.same("the one behind begins in the same minute", state(m, 1), RUNS);
        Check.same("with the prop that it got", m.ofProp(0, 2), 0);
        ManorLoops turned = Houses.rooms(1, 1);
        turned.track(0);
        turned.scene(0, 3, 1, 1, -1);
        turned.scene(0, 2, 1, 1, -1);
        turned.pass(3);
        Check.same("the one ahead is LATE", turned.ofScene(0, 7), 1);
        turned.pass(1);
        Check.same("and begins a minute later", state(turned, 0), RUNS);
    }

    // ---- edges of the steps

    private static void promise9TwoScenesWithOneProp() {
        ManorLoops m = Houses.rooms(1, 1);
        m.track(0);
        m.track(0);
        m.prop(0);
        m.scene(0, 1, 3, 1, 0);
        m.scene(0, 2, 1, 2, 0);
        m.scene(0, 9, 1, 2, 0);
        m.pass(2);
        Check.same("both RUN, as it lies there", m.ofRoom(0, 3), 3);
        m.pass(1);
        Check.same("HELD by the track of the one", m.ofProp(0, 2), 1);
        m.pass(1);
        Check.same("then by the track of the other", m.ofProp(0, 2), 0);
        m.pass(5);
        Check.same("which is in the third one not", m.ofScene(2, 7), 1);
    }

    private static void promise9PropInAnotherRoom() {
        ManorLoops m = Houses.rooms(2, 1);
        m.track(0);
        m.prop(1);
        m.scene(0, 1, 1, 1, 0);
        m.pass(4);
        Check.same("LATE, as its prop lies elsewhere", m.ofScene(0, 7), 4);
        m.pass(1);
        Check.same("CUT", state(m, 0), CUT);
        Check.same("the prop lies still", m.ofRoom(1, 4), 1);
    }

    private static void promise9DoorsHaveEachTheirWidth() {
        for (int width = 1; width <= 6; width++) {
            ManorLoops m = Houses.rooms(3, 30);
            m.door(0, 1, width);
            m.door(0, 2, 1);
            m.track(1);
            m.track(2);
            for (int guest = 0; guest < 12; guest++) {
                m.guest(0);
                m.habit(guest, 1, guest < 8 ? 0 : 1);
            }
            m.pass(1);
            Check.same("through the one of " + width, m.ofRoom(1, 1), width);
            Check.same("through the one of 1", m.ofRoom(2, 1), 1);
            Check.same("BLOCKED", m.many(12), 12 - width - 1);
            m.pass(1);
            Check.same("anew in the next minute, " + width, m.ofRoom(1, 1), Math.min(8, 2 * width));
        }
    }

    private static void promise9CapacityToTheLastPlace() {
        for (int capacity = 1; capacity <= 12; capacity++) {
            ManorLoops m = new ManorLoops();
            m.room(30);
            m.room(capacity);
            m.door(0, 1, 6);
            m.track(1);
            for (int guest = 0; guest < 12; guest++) {
                m.guest(0);
                m.habit(guest, 1, 0);
            }
            m.pass(3);
            Check.same("in a room for " + capacity, m.ofRoom(1, 1), capacity);
            Check.same("the last that came, " + capacity, m.ofGuest(capacity - 1, 0), 1);
        }
    }

    private static void promise9HalfTheCapacityRoundedUpSees() {
        for (int capacity = 1; capacity <= 30; capacity++) {
            ManorLoops m = Houses.rooms(1, capacity);
            m.track(0);
            m.scene(0, 1, 1, 1, -1);
            int guests = Math.min(12, capacity);
            for (int guest = 0; guest < guests; guest++) {
                m.guest(0);
            }
            m.pass(1);
            int places = Math.min(guests, capacity / 2 + capacity % 2);
            for (int guest = 0; guest < guests; guest++) {
                Check.same("of " + capacity + " guest " + guest, m.seen(guest, 0), guest < places ? 1 : 0);
            }
        }
    }

    private static void promise9HalfTheLengthRoundedUpIsKnown() {
        for (int length = 1; length <= 8; length++) {
            ManorLoops m = Houses.rooms(1, 1);
            m.track(0);
            m.scene(0, 1, length, 1, -1);
            m.guest(0);
            for (int minute = 1; minute <= length; minute++) {
                m.pass(1);
                int due = minute >= length / 2 + length % 2 ? 1 : 0;
                Check.same("of " + length + " in minute " + minute, m.ofGuest(0, 4), due);
            }
            m.pass(20 - length);
            Check.same("of " + length + " in the next LOOP", m.ofGuest(0, 4), 1);
        }
    }

    private static void promise9WanderToFewerAlone() {
        int[][] crowds = {{1, 0, 1}, {1, 1, 0}, {2, 1, 1}, {2, 2, 0}, {3, 2, 1}, {1, 2, 0}, {4, 4, 0}};
        for (int[] crowd : crowds) {
            ManorLoops m = Houses.line(2, 9);
            for (int guest = 0; guest < crowd[0] + crowd[1]; guest++) {
                m.guest(guest < crowd[0] ? 0 : 1);
            }
            m.habit(0, 2, 0);
            m.pass(1);
            Check.same("from " + crowd[0] + " to " + crowd[1], m.ofGuest(0, 0), crowd[2]);
            Check.same("is not BLOCKED", m.ofGuest(0, 6), 0);
        }
    }

    private static void promise9WanderByDoorsAlone() {
        ManorLoops m = Houses.rooms(4, 9);
        m.door(0, 2, 6);
        m.door(2, 3, 6);
        m.guest(0);
        m.guest(0);
        m.guest(0);
        m.guest(2);
        m.habit(0, 2, 0);
        m.pass(1);
        Check.same("the empty ones have no door from here", m.ofGuest(0, 0), 2);
    }

    private static void promise9SeekTheNearestThenTheSmallest() {
        for (int turned = 0; turned < 2; turned++) {
            ManorLoops m = Houses.line(5, 9);
            m.track(0);
            m.track(4);
            m.track(3);
            m.scene(turned == 0 ? 0 : 4, 1, 8, turned == 0 ? 1 : 2, -1);
            m.scene(turned == 0 ? 4 : 0, 1, 8, turned == 0 ? 2 : 1, -1);
            m.scene(3, 3, 8, 4, -1);
            m.guest(2);
            m.habit(0, 3, 0);
            m.pass(1);
            Check.same("two as far: the smaller number", m.ofGuest(0, 0), turned == 0 ? 1 : 3);
        }
        ManorLoops m = Houses.line(5, 9);
        m.track(0);
        m.track(3);
        m.scene(0, 1, 8, 1, -1);
        m.scene(3, 1, 8, 2, -1);
        m.guest(2);
        m.habit(0, 3, 0);
        m.pass(1);
        Check.same("the nearer one of the greater number", m.ofGuest(0, 0), 3);
    }

    private static void promise9SeekOfThoseToWhichThereIsAWay() {
        for (int lonely = 0; lonely < 3; lonely++) {
            ManorLoops m = Houses.rooms(4, 9);
            m.door(0, 1, 6);
            m.door(1, 2, 6);
            for (int scene = 0; scene < 3; scene++) {
                m.track(scene == lonely ? 3 : 2);
                m.scene(scene == lonely ? 3 : 2, 1, 8, 1 << scene, -1);
            }
            m.guest(0);
            m.habit(0, 3, 0);
            m.pass(2);
            Check.same("scene " + lonely + " is out of the way", m.ofGuest(0, 0), 2);
        }
    }

    private static void promise9NobodyGoesWithoutAWay() {
        ManorLoops m = Houses.rooms(3, 9);
        m.door(0, 1, 6);
        m.track(0);
        m.track(2);
        m.scene(2, 1, 8, 1, -1);
        m.scene(2, 1, 8, 2, -1);
        m.guest(0);
        m.guest(0);
        m.habit(0, 1, 1);
        m.habit(1, 3, 0);
        m.pass(5);
        Check.same("the track", m.ofTrack(0, 4), 0);
        Check.same("who follows", m.ofGuest(0, 5), 0);
        Check.same("who seeks", m.ofGuest(1, 5), 0);
        Check.same("BLOCKED", m.many(12), 0);
        Check.same("the one track without the other", m.ofScene(1, 5), RUNS);
    }

    private static int state(ManorLoops m, int scene) {
        return m.ofScene(scene, 5);
    }
}
