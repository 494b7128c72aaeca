/** Promises 10 to 13: what is done. */
public final class DoingTest {
    private static final int[] WILD = {-1, -2, Integer.MIN_VALUE, Integer.MAX_VALUE};

    public static void main(String[] args) {
        Check.runAll(DoingTest.class);
    }

    private static void promise10Take() {
        ManorLoops m = house();
        m.prop(0);
        m.prop(0);
        m.guest(0);
        m.guest(0);
        Check.same("take", m.take(1, 0), 1);
        Check.same("held by the guest", m.ofProp(0, 3), 1);
        Check.same("holds it", m.ofGuest(1, 3), 0);
        Check.same("lies nowhere", m.ofRoom(0, 4), 2);
        Check.noState(m, "taken from a guest", () -> m.take(0, 0));
        Check.noState(m, "taken again", () -> m.take(1, 0));
        Check.noState(m, "a second one", () -> m.take(1, 1));
        m.leave(1);
        Check.same("READ by both", m.take(0, 0), 2);
        Check.same("the set", m.ofProp(0, 4), 3);
        m.leave(0);
        Check.same("READ once more", m.take(0, 0), 2);
        Check.same("the other one", m.take(1, 1), 1);
        Check.noIndex(m, "guest 2", () -> m.take(2, 0));
        Check.noIndex(m, "prop 2", () -> m.take(0, 2));
        for (int wild : WILD) {
            Check.noIndex(m, "guest " + wild, () -> m.take(wild, 0));
            Check.noIndex(m, "prop " + wild, () -> m.take(0, wild));
        }
    }

    private static void promise10NotThere() {
        ManorLoops m = house();
        m.track(0);
        m.prop(1);
        m.prop(0);
        m.scene(0, 1, 1, 1, 1);
        m.guest(0);
        Check.noState(m, "a prop in another room", () -> m.take(0, 0));
        m.pass(2);
        Check.same("held by the track", m.ofProp(1, 2), 0);
        Check.noState(m, "taken from a track", () -> m.take(0, 1));
        m.pass(18);
        Check.same("it lies at home again", m.take(0, 1), 1);
    }

    private static void promise10SceneHasIt() {
        ManorLoops m = house();
        m.track(0);
        m.prop(0);
        m.prop(0);
        m.scene(0, 2, 3, 1, 0);
        m.guest(0);
        m.guest(0);
        m.pass(1);
        Check.same("ahead of the scene", m.take(0, 0), 1);
        m.leave(0);
        m.pass(1);
        Check.noState(m, "in the scene", () -> m.take(0, 0));
        Check.same("another one in it", m.take(1, 1), 1);
    }

    private static void promise11Leave() {
        ManorLoops m = house();
        m.track(1);
        m.prop(0);
        m.prop(0);
        m.guest(0);
        m.guest(0);
        m.habit(0, 1, 0);
        Check.noState(m, "holds none", () -> m.leave(0));
        m.take(0, 1);
        m.take(1, 0);
        m.pass(1);
        Check.same("goes along", m.ofProp(1, 1), 1);
        Check.same("leave", m.leave(0), 1);
        Check.same("lies where the guest is", m.ofProp(1, 1), 1);
        Check.same("held by none", m.ofProp(1, 3), -1);
        Check.same("lies there", m.ofRoom(1, 4), 2);
        Check.same("READ still", m.ofProp(1, 4), 1);
        Check.noState(m, "left already", () -> m.leave(0));
        Check.same("the other one", m.leave(1), 0);
        Check.noIndex(m, "guest 2", () -> m.leave(2));
        for (int wild : WILD) {
            Check.noIndex(m, "guest " + wild, () -> m.leave(wild));
        }
    }

    private static void promise12Play() {
        ManorLoops m = house();
        m.track(0);
        m.track(1);
        m.track(1);
        m.scene(0, 0, 2, 1, -1);
        m.scene(1, 2, 2, 2, -1);
        m.scene(1, 4, 2, 4, -1);
        m.scene(1, 6, 2, 5, -1);
        Check.same("scenes of 1 or 0", m.play(1, 0), 3);
        Check.same("who plays", m.ofTrack(1, 3), 0);
        Check.same("played by none", m.ofTrack(0, 3), -1);
        Check.same("is where the other one is", m.ofTrack(1, 0), 0);
        Check.same("without a door", m.ofTrack(1, 4), 0);
        Check.same("both are there", m.ofRoom(0, 2), 3);

        ManorLoops none = house();
        none.track(0);
        none.track(1);
        Check.same("no scenes", none.play(0, 1), 0);
        Check.same("in the other room", none.ofTrack(0, 0), 1);
    }

    private static void promise12Wrong() {
        ManorLoops m = house();
        m.track(0);
        m.track(0);
        Check.noIndex(m, "track 2", () -> m.play(2, 0));
        Check.noIndex(m, "by 2", () -> m.play(0, 2));
        Check.noIndex(m, "2 by itself", () -> m.play(2, 2));
        Check.noArgument(m, "by itself", () -> m.play(1, 1));
        for (int wild : WILD) {
            Check.noIndex(m, "track " + wild, () -> m.play(wild, 0));
            Check.noIndex(m, "by " + wild, () -> m.play(0, wild));
        }
        m.play(0, 1);
        Check.noArgument(m, "by itself ahead of being played", () -> m.play(0, 0));
    }

    private static void promise12InPairsOnly() {
        ManorLoops m = house();
        for (int track = 0; track < 5; track++) {
            m.track(0);
        }
        m.play(0, 1);
        Check.noState(m, "again", () -> m.play(0, 1));
        Check.noState(m, "the other way", () -> m.play(1, 0));
        Check.noState(m, "played by another one too", () -> m.play(0, 2));
        Check.noState(m, "who plays is played", () -> m.play(1, 2));
        Check.noState(m, "by who plays", () -> m.play(2, 1));
        Check.noState(m, "by who is played", () -> m.play(2, 0));
        Check.same("another pair", m.play(4, 3), 0);
        m.part(0);
        Check.same("parted", m.play(2, 0), 0);
    }

    private static void promise12Overlap() {
        ManorLoops m = house();
        m.track(0);
        m.track(0);
        m.track(0);
        m.track(0);
        m.scene(0, 0, 4, 1, -1);
        m.scene(0, 3, 2, 2, -1);
        m.scene(0, 4, 2, 4, -1);
        m.scene(0, 9, 1, 10, -1);
        Check.noState(m, "a common minute", () -> m.play(0, 1));
        Check.noState(m, "a common minute, the other way", () -> m.play(1, 0));
        Check.noState(m, "a common scene", () -> m.play(1, 3));
        Check.noState(m, "a common scene, the other way", () -> m.play(3, 1));
        Check.same("one behind the other", m.play(2, 0), 2);
        m.part(2);
        Check.same("the other way", m.play(0, 2), 2);
    }

    private static void promise12Running() {
        ManorLoops m = house();
        m.track(0);
        m.track(0);
        m.scene(0, 1, 2, 1, -1);
        Check.same("may be played", m.doubles(0), 2);
        m.pass(1);
        Check.noState(m, "the one is in a scene", () -> m.play(0, 1));
        Check.noState(m, "the other one is in a scene", () -> m.play(1, 0));
        Check.same("may not be played", m.doubles(0), 0);
        m.pass(1);
        Check.noState(m, "still", () -> m.play(1, 0));
        m.pass(1);
        Check.same("when it is done", m.play(1, 0), 1);
    }

    private static void promise13Part() {
        ManorLoops m = house();
        m.track(0);
        m.track(1);
        m.track(1);
        m.play(0, 2);
        Check.noState(m, "who plays", () -> m.part(2));
        Check.noState(m, "another one", () -> m.part(1));
        Check.same("part", m.part(0), 2);
        Check.same("played by none", m.ofTrack(0, 3), -1);
        Check.same("it is where the other one is", m.ofTrack(0, 0), 1);
        Check.noState(m, "parted already", () -> m.part(0));
        m.pass(1);
        Check.same("goes by itself from there", m.ofTrack(0, 0), 0);
        Check.same("by a door", m.ofTrack(0, 4), 1);
        Check.noIndex(m, "track 3", () -> m.part(3));
        for (int wild : WILD) {
            Check.noIndex(m, "track " + wild, () -> m.part(wild));
        }
    }

    private static void promise13Running() {
        for (int inScene = 0; inScene < 2; inScene++) {
            ManorLoops m = house();
            m.track(0);
            m.track(0);
            m.scene(0, 2, 2, 1 << inScene, -1);
            m.play(0, 1);
            m.pass(2);
            Check.noState(m, "in a scene: " + inScene, () -> m.part(0));
            m.pass(1);
            Check.noState(m, "still in a scene: " + inScene, () -> m.part(0));
            m.pass(1);
            Check.same("when it is done", m.part(0), 1);
        }
    }

    /** Two rooms with a door. */
    private static ManorLoops house() {
        ManorLoops m = new ManorLoops();
        m.room(5);
        m.room(5);
        m.door(0, 1, 3);
        return m;
    }
}
