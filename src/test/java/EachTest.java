/** Promises 3 to 20: what holds for one room, door, track, prop, scene or guest holds for each of them. */
public final class EachTest {
    private static final int GUESTS = 12;
    private static final int PROPS = 4;
    private static final int NONE = -1;
    private static final int WANDER = 2;
    private static final int SEEK = 3;
    private static final int RUNS = 1;

    /** Fourteen doors between eight rooms. */
    private static final int[][] DOORS = {
        {0, 1}, {2, 1}, {2, 3}, {4, 3}, {4, 5}, {6, 5}, {6, 7}, {0, 7}, {0, 4}, {5, 1}, {2, 6}, {7, 3}, {0, 2}, {5, 0}
    };

    public static void main(String[] args) {
        Check.runAll(EachTest.class);
    }

    // ---- what is told

    private static void promise3EachDoorHasItsWidthBothWays() {
        for (int door = 0; door < DOORS.length; door++) {
            for (int side = 0; side < 2; side++) {
                int from = DOORS[door][side];
                int to = DOORS[door][1 - side];
                ManorLoops m = houseOfDoors();
                m.track(to);
                for (int guest = 0; guest < GUESTS; guest++) {
                    m.guest(from);
                    m.habit(guest, 1, 0);
                }
                m.pass(1);
                Check.same("through door " + door + " from " + from, m.ofRoom(to, 1), 1 + door % 6);
                Check.same("the others of " + from, m.ofRoom(from, 1), GUESTS - 1 - door % 6);
            }
        }
    }

    private static void promise6OverlapOfEachScene() {
        for (int start = 0; start < 11; start++) {
            ManorLoops m = Houses.rooms(1, 3);
            m.track(0);
            for (int scene = 0; scene < 11; scene++) {
                m.scene(0, 10 - scene, 1, 1, NONE);
            }
            int again = start;
            Check.noState(m, "once more at " + start, () -> m.scene(0, again, 1, 1, NONE));
            Check.same("at 11", m.scene(0, 11, 1, 1, NONE), 11);
        }
    }

    private static void promise7EachNewGuest() {
        ManorLoops m = Houses.rooms(3, 4);
        m.track(0);
        for (int guest = 0; guest < GUESTS; guest++) {
            m.guest(guest % 3);
            int[] due = {guest % 3, 0, NONE, NONE, 0, 0, 0};
            for (int what = 0; what < due.length; what++) {
                Check.same("ofGuest(" + guest + ", " + what + ")", m.ofGuest(guest, what), due[what]);
            }
        }
    }

    private static void promise8HabitOfEachGuest() {
        ManorLoops m = Houses.crowd();
        for (int guest = 0; guest < GUESTS; guest++) {
            Check.same("first of " + guest, m.habit(guest, guest % 4, guest % 5), 0);
        }
        for (int guest = 0; guest < GUESTS; guest++) {
            Check.same("HABIT of " + guest, m.ofGuest(guest, 1), guest % 4);
            Check.same("whom " + guest + " FOLLOWS", m.ofGuest(guest, 2), guest % 4 == 1 ? guest % 5 : NONE);
            Check.same("second of " + guest, m.habit(guest, (guest + 1) % 4, 3), guest % 4);
        }
        for (int guest = 0; guest < GUESTS; guest++) {
            Check.same("HABIT of " + guest + " then", m.ofGuest(guest, 1), (guest + 1) % 4);
        }
    }

    private static void promise8WithAnotherHabitItFollowsNone() {
        int[] tracks = {0, 1, 4, 5, NONE, 99};
        for (int habit = 0; habit <= 3; habit++) {
            for (int track : tracks) {
                if (habit != 1) {
                    ManorLoops m = Houses.crowd();
                    m.habit(7, 1, 2);
                    m.habit(7, habit, track);
                    Check.same("with " + habit + " and " + track, m.ofGuest(7, 2), NONE);
                }
            }
        }
    }

    // ---- a minute

    private static void promise9Step1EachSceneIsCut() {
        for (int last = 0; last < 12; last++) {
            for (int far = 0; far < 2; far++) {
                ManorLoops m = Houses.cast(3);
                m.room(3);
                for (int scene = 0; scene < 12; scene++) {
                    boolean isLast = scene == last;
                    m.scene(isLast ? far : 0, isLast ? 18 : 1 + scene / 5, isLast ? 2 : 1, 1 << scene % 5, NONE);
                }
                m.pass(19);
                Check.same("before the end " + last + ", " + far, m.ofScene(last, 5), far == 0 ? RUNS : 0);
                m.pass(1);
                for (int scene = 0; scene < 12; scene++) {
                    String what = "scene " + scene + " as " + last + " is CUT, " + far;
                    Check.same("WAITS " + what, m.ofScene(scene, 5), 0);
                    Check.same("LEFT " + what, m.ofScene(scene, 6), 0);
                    Check.same("LATE " + what, m.ofScene(scene, 7), 0);
                    Check.same("DONE " + what, m.ofScene(scene, 8), scene == last ? 0 : 1);
                    Check.same("CUT " + what, m.ofScene(scene, 9), scene == last ? 1 : 0);
                }
            }
        }
    }

    private static void promise9Step2EachTrackWalksWhileAnotherIsInAScene() {
        for (int busy = 0; busy < 5; busy++) {
            for (int walking = 0; walking < 5; walking++) {
                if (busy != walking) {
                    ManorLoops m = Houses.line(3, 3);
                    for (int track = 0; track < 5; track++) {
                        m.track(0);
                    }
                    m.scene(0, 1, 8, 1 << busy, NONE);
                    m.scene(2, 8, 2, 1 << walking, NONE);
                    String what = walking + " while " + busy + " is in a scene";
                    m.pass(2);
                    Check.same("RUNS", m.ofTrack(busy, 1), 0);
                    Check.same("goes: " + what, m.ofTrack(walking, 0), 2);
                    Check.same("doors: " + what, m.ofTrack(walking, 4), 2);
                    Check.same("stays: " + busy, m.ofTrack(busy, 4), 0);
                }
            }
        }
    }

    /** Four scenes in the rooms 1 to 4, in each order of their starts. */
    private static void promise9Step2SmallestStartOfFour() {
        for (int code = 0; code < 256; code++) {
            int[] order = {code & 3, code >> 2 & 3, code >> 4 & 3, code >> 6};
            if ((1 << order[0] | 1 << order[1] | 1 << order[2] | 1 << order[3]) == 15) {
                lookAtOrder(order);
            }
        }
    }

    private static void lookAtOrder(int[] order) {
        ManorLoops m = Houses.rooms(5, 3);
        m.track(0);
        int[] sceneAt = new int[4];
        for (int scene = 0; scene < 4; scene++) {
            m.door(0, scene + 1, 1);
            m.scene(scene + 1, 2 + 4 * order[scene], 2, 1, NONE);
            sceneAt[order[scene]] = scene;
        }
        String what = " with the order " + order[0] + order[1] + order[2] + order[3];
        for (int turn = 0; turn < 4; turn++) {
            Check.same("NEXT SCENE " + turn + what, m.ofTrack(0, 2), sceneAt[turn]);
            m.pass(turn == 0 ? 2 : 4);
            Check.same("ROOM " + turn + what, m.ofTrack(0, 0), sceneAt[turn] + 1);
            Check.same("RUNS " + turn + what, m.ofScene(sceneAt[turn], 5), RUNS);
        }
        Check.same("without one" + what, m.ofTrack(0, 2), NONE);
    }

    /** Four tracks get a prop each; they have it in their next scene, and another one does not. */
    private static void promise9Step3EachPropIsHeldByItsTrack() {
        for (int shift = 0; shift < PROPS; shift++) {
            ManorLoops m = Houses.cast(3);
            for (int scene = 0; scene < 12; scene++) {
                int turn = scene % PROPS;
                int track = scene < 8 ? turn : (turn + 1) % PROPS;
                m.scene(0, scene < PROPS ? 1 + turn : scene < 8 ? 7 + turn : 12 + turn, 1, 1 << track,
                    (turn + shift) % PROPS);
            }
            for (int turn = 0; turn < PROPS; turn++) {
                m.pass(1);
                sameHolders(m, shift, turn);
            }
            m.pass(1);
            sameHolders(m, shift, PROPS);
            m.pass(1);
            for (int turn = 0; turn < PROPS; turn++) {
                m.pass(1);
                Check.same("has its own: " + turn + ", " + shift, m.ofScene(PROPS + turn, 5), RUNS);
            }
            m.pass(1);
            for (int turn = 0; turn < PROPS; turn++) {
                m.pass(1);
                Check.same("has not its own: " + turn + ", " + shift, m.ofScene(8 + turn, 7), 1);
            }
        }
    }

    private static void sameHolders(ManorLoops m, int shift, int held) {
        for (int turn = 0; turn < PROPS; turn++) {
            int prop = (turn + shift) % PROPS;
            Check.same("at " + m.many(0) + " who HOLDS " + prop, m.ofProp(prop, 2), turn < held ? turn : NONE);
        }
    }

    private static void promise9Step4WanderFromEachRoomToEach() {
        for (int from = 0; from < 5; from++) {
            for (int to = 0; to < 5; to++) {
                ManorLoops m = crowded(from, to);
                m.habit(0, WANDER, 0);
                m.pass(1);
                Check.same("from " + from + " to the fewest in " + to, m.ofGuest(0, 0), to);
                Check.same("doors from " + from + " to " + to, m.ofGuest(0, 5), from == to ? 0 : 1);
                Check.same("BLOCKED", m.many(12), 0);
            }
        }
    }

    private static void promise9Step4WanderStaysInEachRoomWithAScene() {
        for (int from = 0; from < 5; from++) {
            for (int at = 0; at < 5; at++) {
                int to = (from + 1) % 5;
                ManorLoops m = crowded(from, to);
                m.track(at);
                m.scene(at, 1, 8, 1, NONE);
                m.habit(0, WANDER, 0);
                m.pass(1);
                Check.same("from " + from + ", a scene in " + at, m.ofGuest(0, 0), at == from ? from : to);
                Check.same("doors, a scene in " + at, m.ofGuest(0, 5), at == from ? 0 : 1);
                Check.same("BLOCKED, a scene in " + at, m.many(12), 0);
            }
        }
    }

    private static void promise9Step4SeekEachScene() {
        for (int scene = 0; scene < 12; scene++) {
            ManorLoops m = Houses.line(2, 3);
            m.track(1);
            for (int other = 0; other < 12; other++) {
                m.scene(1, 1 + other, 1, 1, NONE);
            }
            m.guest(0);
            if (scene > 0) {
                m.pass(scene);
            }
            m.habit(0, SEEK, 0);
            m.pass(1);
            Check.same("to scene " + scene, m.ofGuest(0, 0), 1);
            Check.same("KNOWS scene " + scene, m.ofGuest(0, 4), 1 << scene);
        }
    }

    private static void promise9Step5EachRoomHasItsCapacity() {
        int[] capacities = {2, 9, 4, 12, 1, 7, 20, 5};
        for (int room = 0; room < 8; room++) {
            ManorLoops m = new ManorLoops();
            for (int capacity : capacities) {
                m.room(capacity);
            }
            m.track(room);
            m.scene(room, 1, 1, 1, NONE);
            int guests = Math.min(GUESTS, capacities[room]);
            for (int guest = 0; guest < guests; guest++) {
                m.guest(room);
            }
            m.pass(1);
            int due = Math.min(guests, capacities[room] / 2 + capacities[room] % 2);
            Check.same("who SEE it in room " + room, m.ofScene(0, 10), due);
        }
    }

    // ---- what is done

    private static void promise10EachGuestAndProp() {
        for (int guest = 0; guest < GUESTS; guest++) {
            for (int prop = 0; prop < PROPS; prop++) {
                ManorLoops m = Houses.crowd();
                int who = guest;
                int more = (prop + 1) % PROPS;
                Check.same("take(" + guest + ", " + prop + ")", m.take(guest, prop), 1);
                Check.noState(m, "a second one for " + guest, () -> m.take(who, more));
                Check.same("another one takes " + more, m.take((guest + 1) % GUESTS, more), 1);
                Check.same("what " + guest + " HOLDS", m.ofGuest(guest, 3), prop);
                Check.same("who HOLDS " + prop, m.ofProp(prop, 3), guest);
                Check.same("who has READ " + prop, m.ofProp(prop, 4), 1 << guest);
                Check.same("leave(" + guest + ")", m.leave(guest), prop);
            }
        }
    }

    /** The scene with the prop is the sixth one of a single track; the others have another prop, in another room. */
    private static void promise10PropOfAnySceneThatRunsInAnyRoom() {
        for (int room = 0; room < 6; room++) {
            for (int inScene = 0; inScene < PROPS; inScene++) {
                for (int prop = 0; prop < PROPS; prop++) {
                    ManorLoops m = Houses.rooms(6, 3);
                    m.track(room);
                    for (int i = 0; i < PROPS; i++) {
                        m.prop(room);
                    }
                    for (int scene = 0; scene < 5; scene++) {
                        m.scene((room + 1 + scene) % 6, 9 + scene, 1, 1, (inScene + 1 + scene % 3) % PROPS);
                    }
                    m.scene(room, 1, 3, 1, inScene);
                    m.guest(room);
                    m.pass(1);
                    String due = prop == inScene ? "throws.IllegalStateException" : "1";
                    int what = prop;
                    Check.sameText("take(0, " + prop + ") in room " + room + " with a scene of " + inScene,
                        Check.outcome(() -> m.take(0, what)), due);
                }
            }
        }
    }

    /** Track 0 has five scenes with one minute between each two, track 1 has one scene of one minute. */
    private static void promise12AndPromise26OverlapOfEachScene() {
        for (int minute = 0; minute < 19; minute++) {
            for (int first = 0; first < 2; first++) {
                ManorLoops m = Houses.rooms(1, 3);
                m.track(0);
                m.track(0);
                if (first == 0) {
                    m.scene(0, minute, 1, 2, NONE);
                }
                int[] lengths = {3, 1, 5, 2, 4};
                boolean apart = true;
                int start = 0;
                for (int length : lengths) {
                    m.scene(0, start, length, 1, NONE);
                    apart &= minute < start || minute >= start + length;
                    start += length + 1;
                }
                if (first == 1) {
                    m.scene(0, minute, 1, 2, NONE);
                }
                Check.same("doubles(0) with one at " + minute, m.doubles(0), apart ? 2 : 0);
                Check.same("doubles(1) with one at " + minute, m.doubles(1), apart ? 1 : 0);
                String due = apart ? "6" : "throws.IllegalStateException";
                Check.sameText("play(0, 1) with one at " + minute, Check.outcome(() -> m.play(0, 1)), due);
            }
        }
    }

    // ---- what one asks

    /** Each set of props is held by tracks, prop p by track p + 1 in room p + 1; the others lie. */
    private static void promise19EachPropIsWhereItsHolderIs() {
        for (int set = 0; set < 16; set++) {
            ManorLoops m = Houses.rooms(5, 3);
            for (int track = 0; track < 5; track++) {
                m.track(track);
            }
            for (int prop = 0; prop < PROPS; prop++) {
                m.prop(prop + 1);
                if ((set >> prop & 1) == 1) {
                    m.scene(prop + 1, 1, 1, 2 << prop, prop);
                }
            }
            m.pass(2);
            for (int prop = 0; prop < PROPS; prop++) {
                boolean held = (set >> prop & 1) == 1;
                Check.same("where " + prop + " is with " + set, m.ofProp(prop, 1), prop + 1);
                Check.same("who HOLDS " + prop + " with " + set, m.ofProp(prop, 2), held ? prop + 1 : NONE);
                Check.same("what lies in " + (prop + 1), m.ofRoom(prop + 1, 4), held ? 0 : 1 << prop);
            }
        }
    }

    private static ManorLoops houseOfDoors() {
        ManorLoops m = Houses.rooms(8, 30);
        for (int door = 0; door < DOORS.length; door++) {
            m.door(DOORS[door][0], DOORS[door][1], 1 + door % 6);
        }
        return m;
    }

    /**
     * Five rooms, each with a door to each other one, and two guests in each, but one in that of the fewest; guest 0
     * is in the room that it would leave.
     */
    private static ManorLoops crowded(int from, int fewest) {
        ManorLoops m = Houses.rooms(5, 30);
        for (int one = 0; one < 5; one++) {
            for (int other = one + 1; other < 5; other++) {
                m.door(other, one, 6);
            }
        }
        m.guest(from);
        for (int room = 0; room < 5; room++) {
            m.guest(room);
            if (room != from && room != fewest) {
                m.guest(room);
            }
        }
        return m;
    }
}
