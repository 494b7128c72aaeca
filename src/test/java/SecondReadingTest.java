/** Promises 1 to 27 on many runs of 512 calls, with SlowManor beside: every answer and every exception is compared. */
public final class SecondReadingTest {
    private static final int RUNS = 300;
    private static final int CALLS = 512;
    private static final int[] WILD = {-1, -2, 5, 13, 31, 32, 64, 601, Integer.MIN_VALUE, Integer.MAX_VALUE};

    private final ManorLoops fast = new ManorLoops();
    private final SlowManor slow = new SlowManor();
    private final StringBuilder told = new StringBuilder();
    private final int run;
    private long seed;
    private int calls = 0;
    private boolean wrong = false;

    private SecondReadingTest(int run) {
        this.run = run;
        seed = run * 7919L + 17;
    }

    public static void main(String[] args) {
        Check.runAll(SecondReadingTest.class);
    }

    private static void promises1To27BesideSlowManor() {
        for (int run = 0; run < RUNS; run++) {
            new SecondReadingTest(run).compare();
        }
    }

    private void compare() {
        tellHouse();
        int outlooks = 0;
        while (calls < CALLS - 2 && !wrong) {
            int dice = below(100);
            if (dice < 2 && outlooks < 12) {
                outlooks++;
                outlook();
            } else if (dice < 25) {
                call("pass", wildly(below(8) == 0 ? 1 + below(60) : 1 + below(3)), 0, 0, 0, 0);
            } else if (dice < 60) {
                act();
            } else {
                ask();
            }
        }
        Check.same("run " + run + " meanKnown equal", fast.meanKnown() == slow.meanKnown() ? 1 : 0, 1);
        calls++;
        call("digest", 0, 0, 0, 0, 0);
    }

    private void tellHouse() {
        int rooms = 1 + below(8);
        for (int room = 0; room < rooms; room++) {
            call("room", below(2) == 0 ? 1 + below(4) : 1 + below(30), 0, 0, 0, 0);
        }
        int doors = below(3) == 0 ? below(15) : rooms + below(5);
        for (int door = 0; door < doors; door++) {
            call("door", below(rooms), below(rooms), 1 + below(below(2) == 0 ? 2 : 6), 0, 0);
        }
        int tracks = below(6);
        for (int track = 0; track < tracks; track++) {
            call("track", below(rooms), 0, 0, 0, 0);
        }
        int props = below(5);
        for (int prop = 0; prop < props; prop++) {
            call("prop", below(rooms), 0, 0, 0, 0);
        }
        int scenes = below(40);
        for (int scene = 0; scene < scenes; scene++) {
            int set = below(2) == 0 ? 1 << below(5) : below(32);
            call("scene", below(rooms), below(20), 1 + below(8), set, below(2) == 0 ? -1 : below(props + 1) - 1);
        }
        int guests = below(14);
        for (int guest = 0; guest < guests; guest++) {
            call("guest", below(rooms), 0, 0, 0, 0);
            call("habit", guest, below(4), below(5), 0, 0);
        }
    }

    private void act() {
        switch (below(16)) {
            case 0: call("room", wildly(below(33)), 0, 0, 0, 0); break;
            case 1: call("door", wildly(below(8)), wildly(below(8)), wildly(below(8)), 0, 0); break;
            case 2: call("track", wildly(below(8)), 0, 0, 0, 0); break;
            case 3: call("prop", wildly(below(8)), 0, 0, 0, 0); break;
            case 4:
                call("scene", wildly(below(8)), wildly(below(20)), wildly(below(10)), wildly(below(33)),
                    wildly(below(6) - 1));
                break;
            case 5: call("guest", wildly(below(8)), 0, 0, 0, 0); break;
            case 6: case 7: call("habit", wildly(below(12)), wildly(below(5)), wildly(below(6)), 0, 0); break;
            case 8: case 9: case 10: call("take", wildly(below(12)), wildly(below(4)), 0, 0, 0); break;
            case 11: call("leave", wildly(below(12)), 0, 0, 0, 0); break;
            case 12: case 13: call("play", wildly(below(5)), wildly(below(5)), 0, 0, 0); break;
            default: call("part", wildly(below(5)), 0, 0, 0, 0); break;
        }
    }

    private void ask() {
        switch (below(9)) {
            case 0: call("ofRoom", wildly(below(8)), wildly(below(6)), 0, 0, 0); break;
            case 1: call("way", wildly(below(8)), wildly(below(8)), wildly(below(3)), 0, 0); break;
            case 2: call("ofTrack", wildly(below(5)), wildly(below(6)), 0, 0, 0); break;
            case 3: call("ofScene", wildly(below(12)), wildly(below(12)), 0, 0, 0); break;
            case 4: call("ofGuest", wildly(below(12)), wildly(below(8)), 0, 0, 0); break;
            case 5: call("ofProp", wildly(below(4)), wildly(below(6)), 0, 0, 0); break;
            case 6: call("seen", wildly(below(12)), wildly(below(12)), 0, 0, 0); break;
            case 7: call("many", wildly(below(14)), 0, 0, 0, 0); break;
            default: call("doubles", wildly(below(5)), 0, 0, 0, 0); break;
        }
    }

    private void outlook() {
        switch (below(4)) {
            case 0: call("wouldKnow", wildly(below(12)), wildly(below(43)), 0, 0, 0); break;
            case 1: call("bestHabit", wildly(below(12)), wildly(below(43)), 0, 0, 0); break;
            case 2: call("wouldCut", wildly(below(43)), 0, 0, 0, 0); break;
            default: call("digest", 0, 0, 0, 0, 0); break;
        }
    }

    private void call(String name, int a, int b, int c, int d, int e) {
        String call = name + "(" + a + ", " + b + ", " + c + ", " + d + ", " + e + ")";
        String got = Check.outcome(() -> answer(name, a, b, c, d, e));
        String due = Check.outcome(() -> slowAnswer(name, a, b, c, d, e));
        calls++;
        told.append(call).append(' ');
        if (!got.equals(due) && !wrong) {
            wrong = true;
            Check.complain("run " + run + ": " + call + " answered " + got + ", due is " + due + " behind " + told);
        }
    }

    private long answer(String name, int a, int b, int c, int d, int e) {
        switch (name) {
            case "room": return fast.room(a);
            case "door": return fast.door(a, b, c);
            case "track": return fast.track(a);
            case "prop": return fast.prop(a);
            case "scene": return fast.scene(a, b, c, d, e);
            case "guest": return fast.guest(a);
            case "habit": return fast.habit(a, b, c);
            case "pass": return fast.pass(a);
            case "take": return fast.take(a, b);
            case "leave": return fast.leave(a);
            case "play": return fast.play(a, b);
            case "part": return fast.part(a);
            case "ofRoom": return fast.ofRoom(a, b);
            case "way": return fast.way(a, b, c);
            case "ofTrack": return fast.ofTrack(a, b);
            case "ofScene": return fast.ofScene(a, b);
            case "ofGuest": return fast.ofGuest(a, b);
            case "ofProp": return fast.ofProp(a, b);
            case "seen": return fast.seen(a, b);
            case "many": return fast.many(a);
            case "wouldKnow": return fast.wouldKnow(a, b);
            case "bestHabit": return fast.bestHabit(a, b);
            case "wouldCut": return fast.wouldCut(a);
            case "doubles": return fast.doubles(a);
            default: return fast.digest();
        }
    }

    private long slowAnswer(String name, int a, int b, int c, int d, int e) {
        switch (name) {
            case "room": return slow.room(a);
            case "door": return slow.door(a, b, c);
            case "track": return slow.track(a);
            case "prop": return slow.prop(a);
            case "scene": return slow.scene(a, b, c, d, e);
            case "guest": return slow.guest(a);
            case "habit": return slow.habit(a, b, c);
            case "pass": return slow.pass(a);
            case "take": return slow.take(a, b);
            case "leave": return slow.leave(a);
            case "play": return slow.play(a, b);
            case "part": return slow.part(a);
            case "ofRoom": return slow.ofRoom(a, b);
            case "way": return slow.way(a, b, c);
            case "ofTrack": return slow.ofTrack(a, b);
            case "ofScene": return slow.ofScene(a, b);
            case "ofGuest": return slow.ofGuest(a, b);
            case "ofProp": return slow.ofProp(a, b);
            case "seen": return slow.seen(a, b);
            case "many": return slow.many(a);
            case "wouldKnow": return slow.wouldKnow(a, b);
            case "bestHabit": return slow.bestHabit(a, b);
            case "wouldCut": return slow.wouldCut(a);
            case "doubles": return slow.doubles(a);
            default: return slow.digest();
        }
    }

    /** Mostly the number itself, seldom one that is far outside. */
    private int wildly(int number) {
        return below(40) == 0 ? WILD[below(WILD.length)] : number;
    }

    /** A fixed sequence of numbers for each run, so that a fault comes again. */
    private int below(int bound) {
        seed = seed * 6364136223846793005L + 1442695040888963407L;
        return (int) ((seed >>> 33) % bound);
    }
}
