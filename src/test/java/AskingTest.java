/** Promises 14 to 22: what one asks. */
public final class AskingTest {
    private static final int[] WILD = {-1, -2, Integer.MIN_VALUE, Integer.MAX_VALUE};

    public static void main(String[] args) {
        Check.runAll(AskingTest.class);
    }

    private static void promise14OfRoom() {
        ManorLoops m = evening();
        m.pass(1);
        int[][] due = {{4, 2, 3, 1, 1}, {7, 1, 4, 2, 4}, {5, 0, 0, 0, 2}};
        for (int room = 0; room < 3; room++) {
            for (int what = 0; what <= 4; what++) {
                Check.same("ofRoom(" + room + ", " + what + ")", m.ofRoom(room, what), due[room][what]);
            }
        }
        m.pass(2);
        Check.same("the prop is held", m.ofRoom(0, 4), 0);
        Check.same("no scene runs there", m.ofRoom(0, 3), 0);
        Check.same("one runs on", m.ofRoom(1, 3), 2);
    }

    private static void promise14Wrong() {
        ManorLoops m = evening();
        Check.noIndex(m, "room 3", () -> m.ofRoom(3, 0));
        Check.noArgument(m, "what 5", () -> m.ofRoom(0, 5));
        Check.noIndex(m, "room ahead of what", () -> m.ofRoom(3, 5));
        for (int wild : WILD) {
            Check.noIndex(m, "room " + wild, () -> m.ofRoom(wild, 0));
            Check.noArgument(m, "what " + wild, () -> m.ofRoom(0, wild));
        }
    }

    private static void promise15Way() {
        ManorLoops m = Houses.rooms(5, 3);
        Check.same("to itself", m.way(2, 2, 0), 0);
        Check.same("next to itself", m.way(2, 2, 1), 2);
        Check.same("no way", m.way(0, 1, 0), -1);
        Check.same("no next", m.way(0, 1, 1), -1);
        m.door(0, 1, 1);
        m.door(2, 3, 1);
        m.door(1, 2, 1);
        Check.same("three doors", m.way(0, 3, 0), 3);
        Check.same("by 1", m.way(0, 3, 1), 1);
        Check.same("three doors back", m.way(3, 0, 0), 3);
        Check.same("by 2", m.way(3, 0, 1), 2);
        m.door(3, 0, 1);
        Check.same("one door", m.way(0, 3, 0), 1);
        Check.same("next is it", m.way(0, 3, 1), 3);
        Check.same("next to itself with doors", m.way(0, 0, 1), 0);
        Check.same("to itself with doors", m.way(0, 0, 0), 0);
        Check.same("alone", m.way(4, 0, 0), -1);
        Check.same("alone, to", m.way(0, 4, 1), -1);
    }

    private static void promise15SmallestNumber() {
        ManorLoops m = Houses.rooms(6, 3);
        m.door(0, 4, 1);
        m.door(4, 5, 1);
        m.door(0, 3, 1);
        m.door(3, 5, 1);
        m.door(0, 1, 1);
        m.door(1, 2, 1);
        m.door(2, 5, 1);
        Check.same("two doors", m.way(0, 5, 0), 2);
        Check.same("by 3, not 4, not by way of 1", m.way(0, 5, 1), 3);
        Check.same("back by 3", m.way(5, 0, 1), 3);
        Check.same("to 2: by 1", m.way(0, 2, 1), 1);
        Check.same("1 to 4: by 0", m.way(1, 4, 1), 0);
        Check.same("3 to 2: by 5", m.way(3, 2, 1), 5);
        Check.same("1 to 5: by 2", m.way(1, 5, 1), 2);
    }

    private static void promise15Wrong() {
        ManorLoops m = Houses.rooms(2, 3);
        Check.noIndex(m, "from 2", () -> m.way(2, 0, 0));
        Check.noIndex(m, "to 2", () -> m.way(0, 2, 0));
        Check.noArgument(m, "what 2", () -> m.way(0, 1, 2));
        Check.noIndex(m, "room ahead of what", () -> m.way(0, 2, 2));
        for (int wild : WILD) {
            Check.noIndex(m, "from " + wild, () -> m.way(wild, 0, 0));
            Check.noIndex(m, "to " + wild, () -> m.way(0, wild, 0));
            Check.noArgument(m, "what " + wild, () -> m.way(0, 1, wild));
        }
    }

    private static void promise16OfTrack() {
        ManorLoops m = Houses.rooms(3, 3);
        m.door(0, 1, 1);
        m.door(1, 2, 1);
        m.track(0);
        m.scene(1, 9, 1, 1, -1);
        m.scene(2, 2, 3, 1, -1);
        sameTrack(m, 0, 0, -1, 1, -1, 0);
        m.pass(1);
        sameTrack(m, 0, 1, -1, 1, -1, 1);
        m.pass(1);
        sameTrack(m, 0, 2, 1, 0, -1, 2);
        m.pass(2);
        sameTrack(m, 0, 2, 1, 0, -1, 2);
        m.pass(1);
        sameTrack(m, 0, 2, -1, 0, -1, 2);
        m.pass(4);
        sameTrack(m, 0, 1, 0, -1, -1, 3);
        m.pass(2);
        sameTrack(m, 0, 0, -1, -1, -1, 4);

        ManorLoops equal = Houses.rooms(1, 3);
        equal.track(0);
        equal.scene(0, 9, 1, 1, -1);
        equal.scene(0, 8, 1, 1, -1);
        Check.same("the smallest start", equal.ofTrack(0, 2), 1);
    }

    private static void promise16OfDoubles() {
        ManorLoops m = Houses.rooms(2, 3);
        m.door(0, 1, 1);
        m.track(0);
        m.track(1);
        m.scene(1, 5, 1, 2, -1);
        m.scene(0, 9, 1, 1, -1);
        m.play(1, 0);
        sameTrack(m, 0, 0, -1, 0, -1, 0);
        sameTrack(m, 1, 0, -1, 0, 0, 0);
        m.pass(5);
        sameTrack(m, 0, 1, -1, 1, -1, 1);
        sameTrack(m, 1, 1, 0, -1, 0, 0);
        m.pass(1);
        sameTrack(m, 1, 1, -1, -1, 0, 0);

        ManorLoops other = Houses.rooms(1, 3);
        other.track(0);
        other.track(0);
        other.scene(0, 9, 1, 1, -1);
        other.scene(0, 9, 1, 2, -1);
        other.scene(0, 5, 1, 1, -1);
        Check.same("of its own", other.ofTrack(1, 2), 1);
        Check.same("of its own", other.ofTrack(0, 2), 2);
    }

    private static void promise17OfScene() {
        ManorLoops m = evening();
        sameScene(m, 0, 0, 1, 2, 3, 0, 0, 0, 0, 0, 0, 0);
        sameScene(m, 1, 1, 0, 8, 4, -1, 0, 0, 0, 0, 0, 0);
        m.pass(1);
        sameScene(m, 0, 0, 1, 2, 3, 0, 1, 2, 0, 0, 0, 2);
        sameScene(m, 1, 1, 0, 8, 4, -1, 1, 8, 0, 0, 0, 0);
        m.pass(3);
        sameScene(m, 0, 0, 1, 2, 3, 0, 2, 0, 0, 1, 0, 2);
        sameScene(m, 1, 1, 0, 8, 4, -1, 1, 5, 0, 0, 0, 1);
        sameScene(m, 2, 2, 3, 1, 1, 2, 0, 0, 2, 0, 0, 0);
        m.pass(3);
        sameScene(m, 2, 2, 3, 1, 1, 2, 3, 0, 5, 0, 1, 0);
    }

    private static void promise18OfGuest() {
        ManorLoops m = evening();
        m.habit(0, 1, 2);
        m.take(1, 0);
        sameGuest(m, 0, 0, 1, 2, -1, 0, 0, 0);
        sameGuest(m, 1, 0, 0, -1, 0, 0, 0, 0);
        m.habit(1, 1, 2);
        m.pass(1);
        sameGuest(m, 0, 1, 1, 2, -1, 0, 1, 0);
        sameGuest(m, 1, 0, 1, 2, 0, 0, 0, 1);
        m.pass(3);
        sameGuest(m, 0, 1, 1, 2, -1, 2, 1, 0);
        sameGuest(m, 1, 1, 1, 2, 0, 0, 1, 1);
        m.pass(1);
        sameGuest(m, 1, 1, 1, 2, 0, 2, 1, 1);
    }

    private static void promise19OfProp() {
        ManorLoops m = evening();
        sameProp(m, 0, 0, 0, -1, -1, 0);
        sameProp(m, 1, 2, 2, -1, -1, 0);
        m.take(1, 0);
        sameProp(m, 0, 0, 0, -1, 1, 2);
        m.habit(1, 1, 2);
        m.pass(1);
        sameProp(m, 0, 0, 1, -1, 1, 2);
        m.leave(1);
        sameProp(m, 0, 0, 1, -1, -1, 2);

        ManorLoops held = evening();
        held.pass(3);
        sameProp(held, 0, 0, 0, 1, -1, 0);
        held.pass(17);
        sameProp(held, 0, 0, 0, -1, -1, 0);
    }

    private static void promise16To19Wrong() {
        ManorLoops m = evening();
        Check.noIndex(m, "track 3", () -> m.ofTrack(3, 0));
        Check.noIndex(m, "track ahead of what", () -> m.ofTrack(3, 5));
        Check.noArgument(m, "track what 5", () -> m.ofTrack(0, 5));
        Check.noIndex(m, "scene 3", () -> m.ofScene(3, 0));
        Check.noIndex(m, "scene ahead of what", () -> m.ofScene(3, 11));
        Check.noArgument(m, "scene what 11", () -> m.ofScene(0, 11));
        Check.noIndex(m, "guest 3", () -> m.ofGuest(3, 0));
        Check.noIndex(m, "guest ahead of what", () -> m.ofGuest(3, 7));
        Check.noArgument(m, "guest what 7", () -> m.ofGuest(0, 7));
        Check.noIndex(m, "prop 3", () -> m.ofProp(3, 0));
        Check.noIndex(m, "prop ahead of what", () -> m.ofProp(3, 5));
        Check.noArgument(m, "prop what 5", () -> m.ofProp(0, 5));
        for (int wild : WILD) {
            Check.noIndex(m, "track " + wild, () -> m.ofTrack(wild, 0));
            Check.noArgument(m, "track what " + wild, () -> m.ofTrack(0, wild));
            Check.noIndex(m, "scene " + wild, () -> m.ofScene(wild, 0));
            Check.noArgument(m, "scene what " + wild, () -> m.ofScene(0, wild));
            Check.noIndex(m, "guest " + wild, () -> m.ofGuest(wild, 0));
            Check.noArgument(m, "guest what " + wild, () -> m.ofGuest(0, wild));
            Check.noIndex(m, "prop " + wild, () -> m.ofProp(wild, 0));
            Check.noArgument(m, "prop what " + wild, () -> m.ofProp(0, wild));
        }
    }

    private static void promise20Seen() {
        ManorLoops m = evening();
        m.pass(1);
        Check.same("guest 0 of 0", m.seen(0, 0), 1);
        Check.same("guest 0 of 1", m.seen(0, 1), 0);
        Check.same("guest 2 of 1", m.seen(2, 1), 1);
        m.pass(3);
        Check.same("guest 0 of 0", m.seen(0, 0), 2);
        Check.same("guest 2 of 1", m.seen(2, 1), 4);
        Check.same("guest 2 of 0", m.seen(2, 0), 0);
        m.pass(16);
        Check.same("a new loop", m.seen(0, 0), 0);
        Check.same("seen at minute 0", m.seen(2, 1), 1);
        Check.noIndex(m, "guest 3", () -> m.seen(3, 0));
        Check.noIndex(m, "scene 3", () -> m.seen(0, 3));
        for (int wild : WILD) {
            Check.noIndex(m, "guest " + wild, () -> m.seen(wild, 0));
            Check.noIndex(m, "scene " + wild, () -> m.seen(0, wild));
        }
    }

    private static void promise21Many() {
        ManorLoops m = evening();
        m.habit(0, 1, 2);
        m.habit(1, 1, 2);
        sameMany(m, 0, 3, 1, 3, 3, 3, 3, 0, 0, 0, 0, 3, 0);
        m.pass(1);
        sameMany(m, 1, 3, 1, 3, 3, 3, 3, 2, 0, 0, 0, 2, 1);
        m.pass(3);
        sameMany(m, 4, 3, 1, 3, 3, 3, 3, 1, 1, 0, 2, 1, 1);
        m.pass(16);
        sameMany(m, 20, 3, 1, 3, 3, 3, 3, 1, 2, 1, 5, 1, 1);
        Check.noArgument(m, "what 13", () -> m.many(13));
        for (int wild : WILD) {
            Check.noArgument(m, "what " + wild, () -> m.many(wild));
        }
    }

    private static void promise22MeanKnown() {
        ManorLoops m = evening();
        Check.sameDouble("at first", m.meanKnown(), 0.0);
        m.pass(1);
        Check.sameDouble("two of three know one", m.meanKnown(), 2.0 / 3.0);
        m.pass(3);
        Check.sameDouble("all know one", m.meanKnown(), 1.0);
        m.guest(2);
        Check.sameDouble("one knows none", m.meanKnown(), 0.75);
        ManorLoops single = Houses.rooms(1, 3);
        single.track(0);
        single.scene(0, 1, 1, 1, -1);
        single.scene(0, 3, 1, 1, -1);
        single.guest(0);
        single.pass(3);
        Check.sameDouble("one guest", single.meanKnown(), 2.0);
        ManorLoops empty = Houses.rooms(2, 3);
        Check.sameDouble("without guests", empty.meanKnown(), 0.0);
    }

    /**
     * Three rooms, a narrow door between 0 and 1 alone; scene 0 in room 0 with a prop, 1 in room 1, and 2 in room
     * 2, to which nobody comes; two guests in room 0 and one in room 1.
     */
    private static ManorLoops evening() {
        ManorLoops m = new ManorLoops();
        m.room(4);
        m.room(7);
        m.room(5);
        m.door(0, 1, 1);
        m.track(0);
        m.track(0);
        m.track(1);
        m.prop(0);
        m.prop(2);
        m.prop(1);
        m.scene(0, 1, 2, 3, 0);
        m.scene(1, 0, 8, 4, -1);
        m.scene(2, 3, 1, 1, 2);
        m.guest(0);
        m.guest(0);
        m.guest(1);
        return m;
    }

    private static void sameTrack(ManorLoops m, int track, int... due) {
        for (int what = 0; what < due.length; what++) {
            Check.same("at " + m.many(0) + " ofTrack(" + track + ", " + what + ")", m.ofTrack(track, what), due[what]);
        }
    }

    private static void sameScene(ManorLoops m, int scene, int... due) {
        for (int what = 0; what < due.length; what++) {
            Check.same("at " + m.many(0) + " ofScene(" + scene + ", " + what + ")", m.ofScene(scene, what), due[what]);
        }
    }

    private static void sameGuest(ManorLoops m, int guest, int... due) {
        for (int what = 0; what < due.length; what++) {
            Check.same("at " + m.many(0) + " ofGuest(" + guest + ", " + what + ")", m.ofGuest(guest, what), due[what]);
        }
    }

    private static void sameProp(ManorLoops m, int prop, int... due) {
        for (int what = 0; what < due.length; what++) {
            Check.same("at " + m.many(0) + " ofProp(" + prop + ", " + what + ")", m.ofProp(prop, what), due[what]);
        }
    }

    private static void sameMany(ManorLoops m, int... due) {
        for (int what = 0; what < due.length; what++) {
            Check.same("at " + due[0] + " many(" + what + ")", m.many(what), due[what]);
        }
    }
}
