/** Promises 9, 12, 13 and 26 for any two of five tracks: doubles, and props that a track holds. */
public final class PairsTest {
    private static final int TRACKS = 5;
    private static final int RUNS = 1;

    /** What is looked at for two different tracks. */
    private interface Pair {
        void look(int one, int other);
    }

    public static void main(String[] args) {
        Check.runAll(PairsTest.class);
    }

    private static void promise9Step2PlayedOneGoesAlong() {
        eachPair((track, by) -> {
            ManorLoops m = Houses.line(3, 1);
            for (int i = 0; i < TRACKS; i++) {
                m.track(i == by ? 1 : 0);
            }
            m.scene(2, 5, 1, 1 << track, -1);
            m.play(track, by);
            Check.same("where " + by + " is, at once " + track, m.ofTrack(track, 0), 1);
            m.pass(1);
            for (int i = 0; i < TRACKS; i++) {
                Check.same("room of " + i, m.ofTrack(i, 0), i == track || i == by ? 2 : 0);
                Check.same("doors of " + i, m.ofTrack(i, 4), i == by ? 1 : 0);
            }
        });
    }

    /**
     * The scene of a third track and of busy begins late, in minute 4, as the third one comes from afar; a scene of
     * wanted is due in minute 5, when the other one still runs.
     */
    private static void promise9Step3DoublesInAnotherScene() {
        eachPair((wanted, busy) -> {
            ManorLoops free = late(wanted, busy);
            free.pass(5);
            Check.same("not doubled " + wanted + ", " + busy, free.ofScene(0, 5), RUNS);

            ManorLoops played = late(wanted, busy);
            played.play(wanted, busy);
            played.pass(5);
            Check.same(wanted + " PLAYED by " + busy, played.ofScene(0, 7), 1);
            played.pass(2);
            Check.same("begins when " + busy + " is free", played.ofScene(0, 5), RUNS);

            ManorLoops plays = late(wanted, busy);
            plays.play(busy, wanted);
            plays.pass(5);
            Check.same(wanted + " PLAYS " + busy, plays.ofScene(0, 7), 1);
            plays.pass(2);
            Check.same("begins when it is free of " + busy, plays.ofScene(0, 5), RUNS);
        });
    }

    private static void promise9Step3DoublesOfOthersDoNotMatter() {
        eachPair((wanted, busy) -> {
            int idle = another(wanted, busy, another(wanted, busy, -1));
            ManorLoops played = late(wanted, busy);
            played.play(busy, idle);
            played.pass(5);
            Check.same(busy + " PLAYED by " + idle + ", " + wanted + " is free", played.ofScene(0, 5), RUNS);
            ManorLoops plays = late(wanted, busy);
            plays.play(idle, busy);
            plays.pass(5);
            Check.same(busy + " PLAYS " + idle + ", " + wanted + " is free", plays.ofScene(0, 5), RUNS);
        });
    }

    private static void promise9Step3PropOfAnyTrack() {
        eachPair((holder, other) -> {
            ManorLoops m = Houses.cast(1);
            m.scene(0, 1, 1, 1 << holder, 0);
            m.scene(0, 4, 1, 1 << other, 0);
            m.scene(0, 6, 1, 1 << holder, 0);
            m.scene(0, 8, 1, 1 << holder | 1 << other, 0);
            m.scene(0, 10, 1, 1 << Math.max(holder, other), 0);
            m.pass(2);
            Check.same("HELD by " + holder, m.ofProp(0, 2), holder);
            m.pass(2);
            Check.same("LATE without it " + other, m.ofScene(1, 7), 1);
            m.pass(2);
            Check.same("RUNS with its own " + holder, m.ofScene(2, 5), RUNS);
            m.pass(2);
            Check.same("RUNS with that of one of both", m.ofScene(3, 5), RUNS);
            m.pass(1);
            Check.same("HELD by the greatest of both", m.ofProp(0, 2), Math.max(holder, other));
            m.pass(1);
            Check.same("RUNS with it", m.ofScene(4, 5), RUNS);
        });
    }

    /** A double's prop is not its own: "HELD by one of its TRACKS". */
    private static void promise9Step3PropOfTheDouble() {
        eachPair((wanted, by) -> {
            ManorLoops m = Houses.cast(1);
            m.scene(0, 1, 1, 1 << by, 0);
            m.scene(0, 4, 1, 1 << wanted, 0);
            m.play(wanted, by);
            m.pass(4);
            Check.same("the prop that " + by + " HOLDS", m.ofScene(1, 7), 1);
        });
    }

    private static void promise9Step4FollowOneThatIsPlayed() {
        eachPair((track, by) -> {
            ManorLoops m = Houses.line(3, 1);
            for (int i = 0; i < TRACKS; i++) {
                m.track(i == by ? 2 : 0);
            }
            m.guest(0);
            m.habit(0, 1, track);
            m.pass(1);
            Check.same("where " + track + " is by itself", m.ofGuest(0, 0), 0);
            m.play(track, by);
            m.pass(2);
            Check.same("where " + track + " is with " + by, m.ofGuest(0, 0), 2);
        });
    }

    private static void promise19PropOfOneThatIsPlayed() {
        eachPair((track, by) -> {
            ManorLoops m = Houses.line(2, 1);
            for (int i = 0; i < TRACKS; i++) {
                m.track(i == by ? 1 : 0);
            }
            m.prop(0);
            m.scene(0, 1, 1, 1 << track, 0);
            m.pass(2);
            Check.same("HELD by " + track, m.ofProp(0, 1), 0);
            m.play(track, by);
            Check.same("HELD by " + track + " with " + by, m.ofProp(0, 1), 1);
            Check.same("HELD by it, not by who PLAYS it", m.ofProp(0, 2), track);
        });
    }

    private static void promise12AnswersHowManyScenes() {
        eachPair((track, by) -> {
            ManorLoops m = Houses.cast(1);
            for (int scene = 0; scene < 12; scene++) {
                m.scene(0, scene, 1, scene % 3 == 0 ? 1 << track : scene % 3 == 1 ? 1 << by : idle(track, by), -1);
            }
            Check.same("8 of 12 of " + track + ", " + by, m.play(track, by), 8);
        });
        eachPair((track, by) -> {
            ManorLoops m = Houses.cast(1);
            for (int scene = 0; scene < 12; scene++) {
                m.scene(0, scene, 1, scene % 2 == 0 ? 1 << track : 1 << by, -1);
            }
            Check.same("12 of 12 of " + track + ", " + by, m.play(track, by), 12);
        });
    }

    private static void promise12AndPromise26OneOverlapsTheOther() {
        eachPair((track, by) -> {
            for (int start = 0; start < 12; start++) {
                int from = start;
                boolean apart = from + 2 <= 5 || from >= 8;
                ManorLoops m = Houses.cast(1);
                m.scene(0, 5, 3, 1 << track, -1);
                m.scene(0, from, 2, 1 << by, -1);
                String what = "5 to 7 of " + track + ", " + from + " to " + (from + 1) + " of " + by;
                Check.same("doubles: " + what, m.doubles(track) >> by & 1, apart ? 1 : 0);
                String due = apart ? "2" : "throws.IllegalStateException";
                Check.sameText("play: " + what, Check.outcome(() -> m.play(track, by)), due);
            }
        });
    }

    private static void promise12AndPromise26OneSceneHasBoth() {
        eachPair((track, by) -> {
            ManorLoops m = Houses.cast(1);
            m.scene(0, 5, 3, 1 << track | 1 << by, -1);
            Check.same("doubles of " + track, m.doubles(track), 31 - (1 << track | 1 << by));
            Check.noState(m, "play(" + track + ", " + by + ")", () -> m.play(track, by));
        });
    }

    private static void promise12AndPromise26NeitherIsInASceneThatRuns() {
        eachPair((track, by) -> {
            for (int busy = 0; busy < TRACKS; busy++) {
                ManorLoops m = Houses.cast(1);
                m.scene(0, 1, 2, 1 << busy, -1);
                m.pass(1);
                boolean free = busy != track && busy != by;
                String what = track + " by " + by + " as " + busy + " is in a scene";
                Check.same("doubles: " + what, m.doubles(track) >> by & 1, free ? 1 : 0);
                String due = !free ? "throws.IllegalStateException" : "0";
                Check.sameText("play: " + what, Check.outcome(() -> m.play(track, by)), due);
                m.pass(2);
                Check.same("DONE", m.ofScene(0, 8), 1);
                if (!free) {
                    Check.same("doubles when it is DONE: " + what, m.doubles(track) >> by & 1, 1);
                    Check.same("play when it is DONE: " + what, m.play(track, by), 1);
                }
            }
        });
    }

    private static void promise12AndPromise26InPairsAlone() {
        eachPair((track, by) -> {
            ManorLoops m = Houses.cast(1);
            m.play(track, by);
            int others = 31 - (1 << track | 1 << by);
            for (int one = 0; one < TRACKS; one++) {
                boolean single = one != track && one != by;
                Check.same("doubles of " + one, m.doubles(one), single ? others - (1 << one) : 0);
                Check.same("who PLAYS " + one, m.ofTrack(one, 3), one == track ? by : -1);
            }
        });
    }

    private static void promise13NeitherIsInASceneThatRuns() {
        eachPair((track, by) -> {
            for (int busy = 0; busy < TRACKS; busy++) {
                ManorLoops m = Houses.cast(1);
                m.scene(0, 1, 2, 1 << busy, -1);
                m.play(track, by);
                m.pass(2);
                boolean free = busy != track && busy != by;
                String due = free ? String.valueOf(by) : "throws.IllegalStateException";
                Check.sameText("part(" + track + ") from " + by + " as " + busy + " is in a scene",
                    Check.outcome(() -> m.part(track)), due);
                m.pass(1);
                if (!free) {
                    Check.same("part when it is DONE", m.part(track), by);
                }
                Check.same("PLAYED by none", m.ofTrack(track, 3), -1);
            }
        });
    }

    private static void promise13WhoPlaysIsNotPlayed() {
        eachPair((track, by) -> {
            ManorLoops m = Houses.cast(1);
            m.play(track, by);
            for (int one = 0; one < TRACKS; one++) {
                if (one != track) {
                    int other = one;
                    Check.noState(m, "part(" + one + ")", () -> m.part(other));
                }
            }
        });
    }

    private static void promise16SceneThatHasItItself() {
        eachPair((track, by) -> {
            ManorLoops m = Houses.cast(1);
            m.scene(0, 1, 2, 1 << track, -1);
            m.scene(0, 5, 2, 1 << by, -1);
            m.play(track, by);
            Check.same("NEXT of " + by + ", with those of " + track, m.ofTrack(by, 2), 0);
            m.pass(1);
            Check.same("of " + track, m.ofTrack(track, 1), 0);
            Check.same("of " + by + " itself", m.ofTrack(by, 1), -1);
            Check.same("NEXT of " + track + ", its own", m.ofTrack(track, 2), -1);
            Check.same("NEXT of " + by, m.ofTrack(by, 2), 1);
            m.pass(4);
            Check.same("of " + by + " then", m.ofTrack(by, 1), 1);
            Check.same("of " + track + " itself", m.ofTrack(track, 1), -1);
        });
    }

    private static void eachPair(Pair pair) {
        for (int one = 0; one < TRACKS; one++) {
            for (int other = 0; other < TRACKS; other++) {
                if (one != other) {
                    pair.look(one, other);
                }
            }
        }
    }

    private static ManorLoops late(int wanted, int busy) {
        ManorLoops m = Houses.line(5, 1);
        int third = another(wanted, busy, -1);
        for (int track = 0; track < TRACKS; track++) {
            m.track(track == third ? 4 : 0);
        }
        m.scene(0, 5, 1, 1 << wanted, -1);
        m.scene(0, 3, 2, 1 << busy | 1 << third, -1);
        return m;
    }

    /** The smallest track that is none of these. */
    private static int another(int one, int other, int third) {
        int track = 0;
        while (track == one || track == other || track == third) {
            track++;
        }
        return track;
    }

    private static int idle(int one, int other) {
        return 1 << another(one, other, -1);
    }
}
