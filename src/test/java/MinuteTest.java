/** Promise 9: pass, and the five steps of a minute. */
public final class MinuteTest {
    public static void main(String[] args) {
        Check.runAll(MinuteTest.class);
    }

    private static void promise9Pass() {
        ManorLoops m = Houses.rooms(3, 3);
        m.track(0);
        m.scene(0, 2, 1, 1, -1);
        m.scene(0, 5, 2, 1, -1);
        Check.same("pass(2)", m.pass(2), 0);
        Check.same("pass(1): one is DONE at 3", m.pass(1), 1);
        Check.same("pass(3)", m.pass(3), 0);
        Check.same("pass(1): another one at 7", m.pass(1), 1);
        Check.same("pass(60)", m.pass(60), 6);
        Check.same("NOW", m.many(0), 67);
    }

    private static void promise9Wrong() {
        ManorLoops m = Houses.rooms(1, 3);
        Check.noArgument(m, "pass(0)", () -> m.pass(0));
        Check.noArgument(m, "pass(61)", () -> m.pass(61));
        Check.noArgument(m, "pass least", () -> m.pass(Integer.MIN_VALUE));
        Check.noArgument(m, "pass most", () -> m.pass(Integer.MAX_VALUE));
        for (int i = 0; i < 9; i++) {
            m.pass(60);
        }
        m.pass(59);
        Check.noState(m, "to 601", () -> m.pass(2));
        Check.noArgument(m, "61 ahead of NOW", () -> m.pass(61));
        Check.same("to 600", m.pass(1), 0);
        Check.noState(m, "behind 600", () -> m.pass(1));
        Check.noArgument(m, "0 behind 600", () -> m.pass(0));
        Check.same("NOW", m.many(0), 600);
    }

    private static void promise9Step1LoopEnds() {
        ManorLoops m = Houses.rooms(2, 3);
        m.track(0);
        m.scene(1, 17, 2, 1, -1);
        m.scene(0, 3, 4, 1, -1);
        m.pass(19);
        same(m, 0, 0, 0, 3, 0, 0);
        same(m, 1, 2, 0, 0, 1, 0);
        m.pass(1);
        same(m, 0, 0, 0, 0, 0, 1);
        same(m, 1, 0, 0, 0, 1, 0);
        Check.same("all LATE", m.many(10), 3);
        Check.same("all CUT", m.many(9), 1);
        Check.same("all DONE", m.many(8), 1);
        m.pass(20);
        same(m, 0, 0, 0, 0, 0, 2);
        same(m, 1, 0, 0, 0, 2, 0);
        Check.same("all LATE of two LOOPS", m.many(10), 6);
    }

    private static void promise9Step1RunningSceneIsCut() {
        ManorLoops m = Houses.rooms(1, 3);
        m.track(0);
        m.prop(0);
        m.scene(0, 18, 2, 1, 0);
        m.pass(18);
        same(m, 0, 1, 2, 0, 0, 0);
        m.pass(1);
        same(m, 0, 1, 1, 0, 0, 0);
        Check.same("nothing is DONE at 20", m.pass(1), 0);
        same(m, 0, 0, 0, 0, 0, 1);
        Check.same("its prop lies", m.ofProp(0, 2), -1);

        ManorLoops sooner = Houses.rooms(1, 3);
        sooner.track(0);
        sooner.scene(0, 18, 1, 1, -1);
        sooner.pass(19);
        same(sooner, 0, 2, 0, 0, 1, 0);
        sooner.pass(1);
        same(sooner, 0, 0, 0, 0, 1, 0);
    }

    private static void promise9Step1PropsGoHome() {
        ManorLoops m = Houses.rooms(2, 3);
        m.door(0, 1, 3);
        m.track(1);
        m.prop(0);
        m.prop(0);
        m.prop(1);
        m.scene(1, 0, 1, 1, 2);
        m.guest(0);
        m.guest(0);
        m.take(0, 0);
        m.take(1, 1);
        m.habit(0, 1, 0);
        m.habit(1, 1, 0);
        m.pass(2);
        m.leave(0);
        Check.same("left in room 1", m.ofProp(0, 1), 1);
        Check.same("held by the track", m.ofProp(2, 2), 0);
        m.pass(17);
        Check.same("there at 19", m.ofProp(0, 1), 1);
        m.pass(1);
        Check.same("home at 20", m.ofProp(0, 1), 0);
        Check.same("home lies", m.ofRoom(0, 4), 1);
        Check.same("a guest holds on", m.ofProp(1, 3), 1);
        Check.same("and is in room 1", m.ofProp(1, 1), 1);
        Check.same("the track's is home", m.ofProp(2, 2), -1);
        Check.same("the track's lies", m.ofRoom(1, 4), 4);
        Check.same("nobody forgets what it READ", m.ofProp(0, 4), 1);
    }

    private static void promise9Step2TracksWalk() {
        ManorLoops m = Houses.line(4, 3);
        m.track(0);
        m.scene(3, 2, 2, 1, -1);
        m.pass(1);
        Check.same("one door", m.ofTrack(0, 0), 1);
        m.pass(1);
        Check.same("two doors", m.ofTrack(0, 0), 2);
        Check.same("it is late", m.ofScene(0, 7), 1);
        m.pass(1);
        Check.same("three doors", m.ofTrack(0, 0), 3);
        Check.same("it runs at once", m.ofScene(0, 5), 1);
        m.pass(2);
        Check.same("it is done", m.ofScene(0, 5), 2);
        Check.same("where it was", m.ofTrack(0, 0), 3);
        m.pass(1);
        Check.same("home again", m.ofTrack(0, 0), 2);
        m.pass(2);
        Check.same("at home", m.ofTrack(0, 0), 0);
        Check.same("doors ever", m.ofTrack(0, 4), 6);
        m.pass(5);
        Check.same("stays at home", m.ofTrack(0, 4), 6);
    }

    private static void promise9Step2SmallestStartFirst() {
        ManorLoops m = Houses.rooms(3, 3);
        m.door(0, 1, 1);
        m.door(0, 2, 1);
        m.track(0);
        m.track(1);
        m.scene(2, 9, 1, 1, -1);
        m.scene(1, 6, 1, 1, -1);
        m.scene(1, 12, 1, 2, -1);
        m.pass(1);
        Check.same("to the sooner one", m.ofTrack(0, 0), 1);
        m.pass(4);
        Check.same("waits there", m.ofTrack(0, 0), 1);
        m.pass(3);
        Check.same("then to the other one", m.ofTrack(0, 0), 0);
        m.pass(1);
        Check.same("is there", m.ofTrack(0, 0), 2);
        Check.same("in time", m.ofScene(0, 5), 1);
        Check.same("the other track stayed", m.ofTrack(1, 4), 0);
    }

    private static void promise9Step2NoWay() {
        ManorLoops m = Houses.rooms(3, 3);
        m.door(0, 1, 1);
        m.track(0);
        m.scene(2, 0, 1, 1, -1);
        m.pass(4);
        Check.same("stays without a way", m.ofTrack(0, 0), 0);
        Check.same("no doors", m.ofTrack(0, 4), 0);
        m.door(1, 2, 1);
        m.pass(1);
        Check.same("goes by a new door", m.ofTrack(0, 0), 1);
    }

    private static void promise9Step2PlayedTrackGoesAlong() {
        ManorLoops m = Houses.line(4, 3);
        m.track(0);
        m.track(2);
        m.scene(2, 3, 2, 2, -1);
        m.scene(1, 8, 2, 1, -1);
        Check.same("scenes of both", m.play(1, 0), 2);
        Check.same("comes at once", m.ofTrack(1, 0), 0);
        m.pass(1);
        Check.same("by the other's next scene", m.ofTrack(0, 0), 1);
        Check.same("goes along", m.ofTrack(1, 0), 1);
        m.pass(1);
        Check.same("to the scene", m.ofTrack(0, 0), 2);
        Check.same("by itself", m.ofTrack(0, 4), 2);
        Check.same("not by itself", m.ofTrack(1, 4), 0);
        m.pass(1);
        Check.same("runs with the played one", m.ofTrack(1, 1), 0);
        Check.same("the player has it not itself", m.ofTrack(0, 1), -1);
        m.pass(1);
        Check.same("the player stays in it", m.ofTrack(0, 0), 2);
        m.pass(1);
        Check.same("done", m.ofScene(0, 5), 2);
        m.pass(1);
        Check.same("to its own scene", m.ofTrack(0, 0), 1);
        m.pass(5);
        Check.same("to its own home", m.ofTrack(0, 0), 0);
        Check.same("with the played one", m.ofTrack(1, 0), 0);
        m.part(1);
        m.pass(2);
        Check.same("by itself to its home", m.ofTrack(1, 0), 2);
        Check.same("doors by itself", m.ofTrack(1, 4), 2);
    }

    private static void promise9Step3SceneRuns() {
        ManorLoops m = Houses.rooms(1, 3);
        m.track(0);
        m.track(0);
        m.prop(0);
        m.scene(0, 4, 3, 3, 0);
        m.pass(3);
        same(m, 0, 0, 0, 0, 0, 0);
        m.pass(1);
        same(m, 0, 1, 3, 0, 0, 0);
        Check.same("its prop lies still", m.ofProp(0, 2), -1);
        m.pass(2);
        same(m, 0, 1, 1, 0, 0, 0);
        Check.same("done", m.pass(1), 1);
        same(m, 0, 2, 0, 0, 1, 0);
        Check.same("the greatest holds it", m.ofProp(0, 2), 1);
        m.pass(10);
        same(m, 0, 2, 0, 0, 1, 0);
    }

    private static void promise9Step3StartZero() {
        ManorLoops m = Houses.rooms(1, 3);
        m.track(0);
        m.scene(0, 0, 2, 1, -1);
        m.pass(1);
        same(m, 0, 1, 2, 0, 0, 0);
        m.pass(2);
        same(m, 0, 2, 0, 0, 1, 0);
        m.pass(17);
        same(m, 0, 1, 2, 0, 1, 0);
    }

    private static void promise9Step3LateAndCut() {
        ManorLoops m = Houses.rooms(2, 3);
        m.track(0);
        m.scene(1, 6, 2, 1, -1);
        m.pass(5);
        same(m, 0, 0, 0, 0, 0, 0);
        m.pass(1);
        same(m, 0, 0, 0, 1, 0, 0);
        m.pass(3);
        same(m, 0, 0, 0, 4, 0, 0);
        m.pass(1);
        same(m, 0, 3, 0, 5, 0, 1);
        m.pass(5);
        same(m, 0, 3, 0, 5, 0, 1);
        m.pass(5);
        same(m, 0, 0, 0, 0, 0, 1);
        Check.same("all LATE", m.many(10), 5);
    }

    private static void promise9Step3TracksInAnotherScene() {
        ManorLoops m = Houses.rooms(2, 3);
        m.door(0, 1, 1);
        m.track(0);
        m.track(1);
        m.scene(0, 4, 1, 2, -1);
        m.scene(0, 5, 1, 1, -1);
        m.scene(0, 2, 2, 3, -1);
        m.pass(2);
        same(m, 2, 1, 2, 0, 0, 0);
        m.pass(1);
        Check.same("the player of both stays", m.ofTrack(1, 0), 0);
        m.pass(1);
        same(m, 0, 0, 0, 1, 0, 0);
        same(m, 2, 2, 0, 0, 1, 0);
        m.pass(1);
        same(m, 0, 1, 1, 1, 0, 0);
        same(m, 1, 1, 1, 0, 0, 0);

        ManorLoops other = Houses.rooms(1, 3);
        other.track(0);
        other.scene(0, 2, 2, 1, -1);
        other.scene(0, 4, 1, 1, -1);
        other.pass(4);
        same(other, 0, 2, 0, 0, 1, 0);
        same(other, 1, 1, 1, 0, 0, 0);
    }

    /** Scene 1 begins late, as track 2 comes from afar; so the double of its track 0 is late for scene 0. */
    private static void promise9Step3DoublesInAnotherScene() {
        for (int played = 0; played < 2; played++) {
            ManorLoops m = Houses.line(5, 3);
            m.track(0);
            m.track(0);
            m.track(4);
            m.scene(0, 5, 1, 2, -1);
            m.scene(0, 3, 2, 5, -1);
            m.play(played, 1 - played);
            m.pass(4);
            same(m, 1, 1, 2, 1, 0, 0);
            m.pass(1);
            same(m, 0, 0, 0, 1, 0, 0);
            m.pass(1);
            same(m, 0, 0, 0, 2, 0, 0);
            same(m, 1, 2, 0, 1, 1, 0);
            m.pass(1);
            same(m, 0, 1, 1, 2, 0, 0);
        }
    }

    private static void promise9Step3PropIsNeeded() {
        ManorLoops m = Houses.rooms(2, 3);
        m.door(0, 1, 1);
        m.track(0);
        m.prop(1);
        m.prop(0);
        m.scene(0, 2, 1, 1, 0);
        m.scene(0, 9, 1, 1, 1);
        m.guest(1);
        m.guest(0);
        m.take(0, 0);
        m.habit(0, 1, 0);
        m.pass(2);
        same(m, 0, 0, 0, 1, 0, 0);
        Check.same("its prop is there, but held by a guest", m.ofProp(0, 1), 0);
        m.leave(0);
        m.pass(1);
        same(m, 0, 1, 1, 1, 0, 0);
    }

    private static void promise9Step3PropIsHeldByTrack() {
        ManorLoops m = Houses.rooms(2, 3);
        m.door(0, 1, 1);
        m.track(0);
        m.track(1);
        m.prop(0);
        m.scene(0, 1, 1, 1, 0);
        m.scene(1, 4, 1, 3, 0);
        m.scene(1, 7, 1, 1, 0);
        m.pass(2);
        Check.same("held by track 0", m.ofProp(0, 2), 0);
        m.pass(1);
        Check.same("goes along", m.ofProp(0, 1), 1);
        Check.same("lies nowhere", m.ofRoom(1, 4), 0);
        m.pass(1);
        same(m, 1, 1, 1, 0, 0, 0);
        Check.same("held on", m.ofProp(0, 2), 0);
        m.pass(1);
        Check.same("then by the greater one", m.ofProp(0, 2), 1);
        m.pass(2);
        same(m, 2, 0, 0, 1, 0, 0);
        m.pass(4);
        same(m, 2, 3, 0, 5, 0, 1);
    }

    private static void promise9Step4Follow() {
        ManorLoops m = Houses.line(4, 3);
        m.track(0);
        m.scene(2, 5, 1, 1, -1);
        m.guest(0);
        m.guest(3);
        m.habit(0, 1, 0);
        m.habit(1, 1, 0);
        m.pass(1);
        Check.same("follows at once", m.ofGuest(0, 0), 1);
        Check.same("the other one comes", m.ofGuest(1, 0), 2);
        m.pass(1);
        Check.same("with it", m.ofGuest(0, 0), 2);
        Check.same("is met", m.ofGuest(1, 0), 2);
        Check.same("doors", m.ofGuest(1, 5), 1);
        m.pass(3);
        Check.same("stays with it", m.ofGuest(0, 5), 2);

        ManorLoops apart = Houses.rooms(2, 3);
        apart.track(1);
        apart.guest(0);
        apart.habit(0, 1, 0);
        apart.pass(3);
        Check.same("no way", apart.ofGuest(0, 0), 0);
        Check.same("is not blocked", apart.ofGuest(0, 6), 0);
    }

    private static void promise9Step4DoorWidth() {
        ManorLoops m = Houses.rooms(2, 9);
        m.door(0, 1, 2);
        m.track(1);
        for (int guest = 0; guest < 5; guest++) {
            m.guest(0);
            m.habit(guest, 1, 0);
        }
        m.pass(1);
        Check.same("two go", m.ofRoom(1, 1), 2);
        Check.same("three stay", m.ofRoom(0, 1), 3);
        Check.same("the first ones", m.ofGuest(1, 0), 1);
        Check.same("guest 2 is blocked", m.ofGuest(2, 6), 1);
        Check.same("blocked ever", m.many(12), 3);
        m.pass(1);
        Check.same("two more", m.ofRoom(1, 1), 4);
        Check.same("guest 4 is blocked again", m.ofGuest(4, 6), 2);
        m.pass(1);
        Check.same("all", m.ofRoom(1, 1), 5);
        Check.same("blocked ever", m.many(12), 4);
    }

    private static void promise9Step4BothWaysTogether() {
        ManorLoops m = Houses.rooms(2, 9);
        m.door(1, 0, 1);
        m.track(1);
        m.track(0);
        m.guest(0);
        m.guest(1);
        m.habit(0, 1, 0);
        m.habit(1, 1, 1);
        m.pass(1);
        Check.same("one goes", m.ofGuest(0, 0), 1);
        Check.same("the other way is taken too", m.ofGuest(1, 0), 1);
        Check.same("blocked", m.ofGuest(1, 6), 1);
        m.pass(1);
        Check.same("then it goes", m.ofGuest(1, 0), 0);
    }

    private static void promise9Step4Capacity() {
        ManorLoops m = new ManorLoops();
        m.room(9);
        m.room(2);
        m.door(0, 1, 6);
        m.track(1);
        for (int guest = 0; guest < 3; guest++) {
            m.guest(0);
            m.habit(guest, 1, 0);
        }
        m.pass(3);
        Check.same("two fit", m.ofRoom(1, 1), 2);
        Check.same("the last one stays", m.ofGuest(2, 0), 0);
        Check.same("blocked", m.ofGuest(2, 6), 3);
        Check.same("no doors", m.ofGuest(2, 5), 0);
    }

    private static void promise9Step4RoomIsLeftFirst() {
        ManorLoops m = Houses.rooms(3, 1);
        m.door(0, 1, 1);
        m.door(1, 2, 1);
        m.track(2);
        m.guest(1);
        m.guest(0);
        m.habit(0, 1, 0);
        m.habit(1, 1, 0);
        m.pass(1);
        Check.same("the first one leaves", m.ofGuest(0, 0), 2);
        Check.same("the second one comes behind", m.ofGuest(1, 0), 1);

        ManorLoops turned = Houses.rooms(3, 1);
        turned.door(0, 1, 1);
        turned.door(1, 2, 1);
        turned.track(2);
        turned.guest(0);
        turned.guest(1);
        turned.habit(0, 1, 0);
        turned.habit(1, 1, 0);
        turned.pass(1);
        Check.same("the first one is blocked still", turned.ofGuest(0, 6), 1);
        Check.same("the second one leaves", turned.ofGuest(1, 0), 2);
    }

    private static void promise9Step4Wander() {
        ManorLoops m = Houses.rooms(4, 9);
        m.door(0, 1, 6);
        m.door(0, 2, 6);
        m.door(0, 3, 6);
        int[] in = {0, 0, 0, 0, 1, 1, 2, 3};
        for (int room : in) {
            m.guest(room);
        }
        m.habit(0, 2, 0);
        m.habit(1, 2, 0);
        m.habit(2, 2, 0);
        m.pass(1);
        Check.same("to the first of the fewest", m.ofGuest(0, 0), 2);
        Check.same("to the fewest then", m.ofGuest(1, 0), 3);
        Check.same("no room has fewer", m.ofGuest(2, 0), 0);
        Check.same("nobody is blocked", m.many(12), 0);
    }

    private static void promise9Step4WanderStays() {
        ManorLoops m = Houses.rooms(2, 9);
        m.door(0, 1, 6);
        m.track(0);
        m.scene(0, 1, 2, 1, -1);
        m.guest(0);
        m.habit(0, 2, 0);
        m.pass(2);
        Check.same("stays while a scene runs", m.ofGuest(0, 0), 0);
        m.pass(1);
        Check.same("goes when it is done", m.ofGuest(0, 0), 1);
        m.pass(1);
        Check.same("and back, itself included", m.ofGuest(0, 0), 0);

        ManorLoops full = new ManorLoops();
        full.room(9);
        full.room(1);
        full.door(0, 1, 6);
        full.guest(1);
        full.guest(0);
        full.guest(0);
        full.habit(1, 2, 0);
        full.pass(1);
        Check.same("the fewest are too many", full.ofGuest(1, 6), 1);
        Check.same("so it stays", full.ofGuest(1, 0), 0);
    }

    private static void promise9Step4Seek() {
        ManorLoops m = Houses.line(5, 9);
        m.track(4);
        m.track(1);
        m.track(3);
        m.scene(4, 1, 8, 1, -1);
        m.scene(1, 2, 2, 2, -1);
        m.scene(3, 2, 8, 4, -1);
        m.guest(2);
        m.habit(0, 3, 0);
        m.pass(1);
        Check.same("to the only one", m.ofGuest(0, 0), 3);
        m.pass(1);
        Check.same("stays with a nearer one", m.ofGuest(0, 0), 3);
        m.pass(3);
        Check.same("knows it", m.ofGuest(0, 4), 4);
        m.pass(1);
        Check.same("goes on to the next one", m.ofGuest(0, 0), 4);

        ManorLoops between = Houses.line(3, 9);
        between.track(2);
        between.track(0);
        between.scene(2, 1, 2, 1, -1);
        between.scene(0, 1, 2, 2, -1);
        between.guest(1);
        between.habit(0, 3, 0);
        between.pass(1);
        Check.same("the smallest number of a scene", between.ofGuest(0, 0), 2);
        between.pass(1);
        Check.same("then to the one that it does not know", between.ofGuest(0, 0), 1);
        between.pass(5);
        Check.same("without any it stays", between.ofGuest(0, 0), 1);
    }

    private static void promise9Step4SeekKnownAndFar() {
        ManorLoops m = Houses.rooms(3, 9);
        m.door(0, 1, 6);
        m.track(2);
        m.track(1);
        m.scene(2, 1, 8, 1, -1);
        m.scene(1, 4, 1, 2, -1);
        m.guest(0);
        m.habit(0, 3, 0);
        m.pass(3);
        Check.same("no way to the one", m.ofGuest(0, 0), 0);
        Check.same("not blocked", m.ofGuest(0, 6), 0);
        m.pass(1);
        Check.same("a way to the other", m.ofGuest(0, 0), 1);
        Check.same("seen as it comes", m.seen(0, 1), 1);
        Check.same("known", m.ofGuest(0, 4), 2);
    }

    private static void promise9Step5HalfTheCapacity() {
        ManorLoops m = new ManorLoops();
        m.room(5);
        m.room(9);
        m.track(0);
        m.scene(0, 1, 2, 1, -1);
        m.guest(0);
        m.guest(1);
        m.guest(0);
        m.guest(0);
        m.guest(0);
        m.pass(1);
        int[] due = {1, 0, 1, 1, 0};
        for (int guest = 0; guest < 5; guest++) {
            Check.same("seen by " + guest, m.seen(guest, 0), due[guest]);
            Check.same("known by " + guest, m.ofGuest(guest, 4), due[guest]);
        }
        Check.same("who knows it", m.ofScene(0, 10), 3);

        ManorLoops even = Houses.rooms(1, 4);
        even.track(0);
        even.scene(0, 1, 1, 1, -1);
        even.guest(0);
        even.guest(0);
        even.guest(0);
        even.pass(1);
        Check.same("two of four see it", even.ofScene(0, 10), 2);

        ManorLoops one = Houses.rooms(1, 1);
        one.track(0);
        one.scene(0, 1, 1, 1, -1);
        one.guest(0);
        one.pass(1);
        Check.same("one of one sees it", one.ofScene(0, 10), 1);
    }

    private static void promise9Step5HalfTheLength() {
        ManorLoops m = Houses.rooms(1, 3);
        m.track(0);
        m.scene(0, 1, 5, 1, -1);
        m.scene(0, 8, 4, 1, -1);
        m.guest(0);
        m.pass(2);
        Check.same("two of five", m.ofGuest(0, 4), 0);
        m.pass(1);
        Check.same("three of five", m.ofGuest(0, 4), 1);
        m.pass(5);
        Check.same("seen all of it", m.seen(0, 0), 5);
        Check.same("one of four", m.ofGuest(0, 4), 1);
        m.pass(1);
        Check.same("two of four", m.ofGuest(0, 4), 3);
        Check.same("mean", m.seen(0, 1), 2);
    }

    private static void promise9Step5SeenInThisLoopOnly() {
        ManorLoops m = Houses.rooms(2, 9);
        m.door(0, 1, 6);
        m.track(0);
        m.track(1);
        m.scene(0, 1, 6, 1, -1);
        m.guest(0);
        m.pass(2);
        m.habit(0, 1, 1);
        m.pass(17);
        Check.same("seen", m.seen(0, 0), 2);
        m.habit(0, 1, 0);
        m.pass(1);
        Check.same("a new loop", m.seen(0, 0), 0);
        m.pass(2);
        Check.same("seen anew", m.seen(0, 0), 2);
        Check.same("four of two loops are not enough", m.ofGuest(0, 4), 0);
        m.pass(1);
        Check.same("three of one are", m.ofGuest(0, 4), 1);
        m.pass(20);
        Check.same("known from then on", m.ofGuest(0, 4), 1);
    }

    /** What a scene is, its minutes left, late, and how often it was done and cut. */
    private static void same(ManorLoops m, int scene, int state, int left, int late, int done, int cut) {
        int[] due = {state, left, late, done, cut};
        for (int what = 5; what <= 9; what++) {
            Check.same("at " + m.many(0) + " ofScene(" + scene + ", " + what + ")", m.ofScene(scene, what),
                due[what - 5]);
        }
    }
}
