import java.math.BigInteger;
import java.util.ArrayList;
import java.util.List;

/** Promises 2 to 27 on objects that are full, and the largest answers. */
public final class FullTest {
    public static void main(String[] args) {
        Check.runAll(FullTest.class);
    }

    private static void promise2To7NumbersFromZeroOn() {
        ManorLoops m = new ManorLoops();
        for (int room = 0; room < 8; room++) {
            Check.same("room", m.room(30), room);
        }
        for (int track = 0; track < 5; track++) {
            Check.same("track", m.track(7 - track), track);
            Check.same("at first its HOME", m.ofTrack(track, 0), 7 - track);
        }
        for (int prop = 0; prop < 4; prop++) {
            Check.same("prop", m.prop(7 - prop), prop);
            Check.same("lies at first in its HOME", m.ofRoom(7 - prop, 4), 1 << prop);
        }
        for (int scene = 0; scene < 12; scene++) {
            Check.same("scene", m.scene(0, scene, 1, 31, 3), scene);
        }
        for (int guest = 0; guest < 12; guest++) {
            Check.same("guest", m.guest(7), guest);
        }
        int[] due = {0, 8, 0, 5, 12, 4, 12, 0, 0, 0, 0, 12, 0};
        for (int what = 0; what <= 12; what++) {
            Check.same("many(" + what + ")", m.many(what), due[what]);
        }
    }

    private static void promise3FourteenDoorsWithTheirWidths() {
        ManorLoops m = Houses.rooms(8, 30);
        int doors = 0;
        for (int one = 7; one >= 0; one--) {
            for (int other = 0; other < one && doors < 14; other++) {
                doors++;
                Check.same("doors", m.door(one, other, 1 + doors % 6), doors);
            }
        }
        Check.same("many", m.many(2), 14);
    }

    private static void promise7ThirtyPlacesForTwelve() {
        ManorLoops m = Houses.rooms(1, 30);
        for (int guest = 0; guest < 12; guest++) {
            Check.same("guest", m.guest(0), guest);
        }
        Check.same("GUESTS there", m.ofRoom(0, 1), 12);
        Check.noState(m, "a thirteenth one, though there is room", () -> m.guest(0));
    }

    private static void promise9SixHundredMinutes() {
        ManorLoops m = unplayed();
        int done = 0;
        for (int i = 0; i < 10; i++) {
            done += m.pass(60);
        }
        Check.same("DONE", done, 0);
        Check.same("NOW", m.many(0), 600);
        Check.same("CUT ever, 30 LOOPS", m.many(9), 12 * 30);
        Check.same("CUT ever of the last one", m.ofScene(11, 9), 30);
        // At 600, the MINUTE 0 of LOOP 30, the SCENE with a START of 0 is LATE once more.
        Check.same("LATE ever", m.many(10), 12 * 30 * 5 + 1);
        Check.same("BLOCKED ever", m.many(12), 600 * 11);
        Check.same("BLOCKED ever, guest 11", m.ofGuest(11, 6), 600);
        Check.same("all WAIT", m.ofScene(11, 5), 0);
    }

    private static void promise14AllSets() {
        ManorLoops m = allInOne();
        m.pass(10);
        Check.same("CAPACITY", m.ofRoom(0, 0), 30);
        Check.same("GUESTS", m.ofRoom(0, 1), 12);
        Check.same("TRACKS", m.ofRoom(0, 2), 31);
        Check.same("SCENES that RUN", m.ofRoom(0, 3), 1 << 7 | 1 << 8 | 1 << 9 | 1 << 10 | 1 << 11);
        Check.same("PROPS", m.ofRoom(0, 4), 15);
        Check.same("SCENES that RUN in all", m.many(7), 5);
    }

    private static void promise15LongestWay() {
        ManorLoops m = Houses.line(8, 1);
        for (int from = 0; from < 8; from++) {
            for (int to = 0; to < 8; to++) {
                int next = from == to ? from : from < to ? from + 1 : from - 1;
                Check.same("DOORS from " + from + " to " + to, m.way(from, to, 0), Math.abs(from - to));
                Check.same("next from " + from + " to " + to, m.way(from, to, 1), next);
            }
        }
    }

    private static void promise15RingOfEight() {
        ManorLoops m = Houses.line(8, 1);
        m.door(7, 0, 1);
        for (int from = 0; from < 8; from++) {
            int one = (from + 1) % 8;
            int other = (from + 7) % 8;
            Check.same("half round from " + from, m.way(from, (from + 4) % 8, 0), 4);
            Check.same("the smaller one from " + from, m.way(from, (from + 4) % 8, 1), Math.min(one, other));
            Check.same("three on from " + from, m.way(from, (from + 3) % 8, 1), one);
            Check.same("three back from " + from, m.way(from, (from + 5) % 8, 1), other);
        }
    }

    private static void promise16LastNumbers() {
        ManorLoops m = allInOne();
        m.pass(10);
        Check.same("the last SCENE RUNS with the last TRACK", m.ofTrack(4, 1), 11);
        m.pass(10);
        Check.same("the last one is the next one", m.ofTrack(4, 2), 11);
        ManorLoops free = Houses.rooms(1, 1);
        for (int track = 0; track < 5; track++) {
            free.track(0);
        }
        free.play(0, 4);
        Check.same("by the last one", free.ofTrack(0, 3), 4);
    }

    private static void promise16DoorsEver() {
        ManorLoops m = Houses.line(8, 1);
        m.track(0);
        m.scene(7, 7, 1, 1, -1);
        for (int i = 0; i < 10; i++) {
            m.pass(60);
        }
        // In each LOOP 7 DOORS there and 7 back; the first minute of LOOP 30 is one more, at 600.
        Check.same("DOORS ever", m.ofTrack(0, 4), 30 * 14 + 1);
        Check.same("DONE ever", m.ofScene(0, 8), 30);
    }

    private static void promise17AllKnow() {
        ManorLoops m = learned();
        for (int scene = 0; scene < 12; scene++) {
            Check.same("who KNOW scene " + scene, m.ofScene(scene, 10), 12);
        }
        Check.same("SCENES that nobody KNOWS", m.many(11), 0);
    }

    private static void promise18AllSets() {
        ManorLoops m = learned();
        for (int guest = 0; guest < 12; guest++) {
            Check.same("what " + guest + " KNOWS", m.ofGuest(guest, 4), 4095);
        }
        m.habit(11, 1, 4);
        Check.same("the last TRACK", m.ofGuest(11, 2), 4);
        m.take(11, 3);
        Check.same("the last PROP", m.ofGuest(11, 3), 3);
    }

    private static void promise10And19AllHaveRead() {
        ManorLoops m = allInOne();
        for (int guest = 0; guest < 12; guest++) {
            Check.same("READ by", m.take(guest, 3), guest + 1);
            Check.same("HELD by", m.ofProp(3, 3), guest);
            Check.same("LEFT", m.leave(guest), 3);
        }
        Check.same("all", m.ofProp(3, 4), 4095);
        Check.same("READ again", m.take(0, 3), 12);
        Check.same("none of another one", m.ofProp(2, 4), 0);
    }

    private static void promise20SeenForTheWholeLength() {
        ManorLoops m = Houses.rooms(1, 30);
        m.track(0);
        m.scene(0, 1, 8, 1, -1);
        for (int guest = 0; guest < 12; guest++) {
            m.guest(0);
        }
        for (int minute = 1; minute <= 19; minute++) {
            m.pass(1);
            Check.same("seen at " + minute, m.seen(11, 0), Math.min(minute, 8));
        }
        m.pass(1);
        Check.same("seen at 20", m.seen(11, 0), 0);
    }

    private static void promise21KnownByOneOfTwelve() {
        for (int knowing = 0; knowing < 12; knowing++) {
            ManorLoops m = Houses.rooms(2, 30);
            m.track(0);
            m.scene(0, 1, 1, 1, -1);
            m.scene(1, 9, 1, 1, -1);
            for (int guest = 0; guest < 12; guest++) {
                m.guest(guest == knowing ? 0 : 1);
            }
            Check.same("nobody KNOWS both", m.many(11), 2);
            m.pass(1);
            Check.same("guest " + knowing + " KNOWS one", m.many(11), 1);
            Check.same("one GUEST", m.ofScene(0, 10), 1);
        }
    }

    private static void promise22MeanOfTwelve() {
        Check.sameDouble("all KNOW all", learned().meanKnown(), 12.0);
        ManorLoops m = Houses.rooms(2, 30);
        m.track(0);
        m.scene(0, 1, 1, 1, -1);
        for (int guest = 0; guest < 12; guest++) {
            m.guest(guest == 5 ? 0 : 1);
        }
        m.pass(1);
        Check.sameDouble("one KNOWS one", m.meanKnown(), 1.0 / 12.0);
    }

    private static void promise23TwelveInFortyMinutes() {
        ManorLoops m = lessons();
        Check.same("in 11", m.wouldKnow(11, 11), 11);
        Check.same("in 12", m.wouldKnow(11, 12), 12);
        Check.same("in 40", m.wouldKnow(0, 40), 12);
    }

    private static void promise24FollowTheLastTrack() {
        ManorLoops m = Houses.line(3, 30);
        for (int track = 0; track < 4; track++) {
            m.track(0);
        }
        m.track(1);
        m.scene(2, 2, 1, 16, -1);
        m.guest(0);
        Check.same("10 and 4", m.bestHabit(0, 2), 14);
    }

    private static void promise25TwelveTwice() {
        Check.same("40 minutes", unplayed().wouldCut(40), 24);
        ManorLoops m = Houses.rooms(2, 1);
        m.track(0);
        m.scene(1, 18, 2, 1, -1);
        Check.same("by the LOOP's end alone", m.wouldCut(19), 0);
        Check.same("by the LOOP's end", m.wouldCut(20), 1);
        m.pass(19);
        Check.same("in the next minute", m.wouldCut(1), 1);
    }

    private static void promise26AllButItself() {
        ManorLoops m = Houses.rooms(1, 1);
        for (int track = 0; track < 5; track++) {
            m.track(0);
        }
        for (int track = 0; track < 5; track++) {
            Check.same("doubles of " + track, m.doubles(track), 31 - (1 << track));
        }
    }

    private static void promise27WrapsAroundAs64Bits() {
        for (int minutes = 1; minutes <= 57; minutes += 4) {
            ManorLoops m = Houses.full();
            m.pass(minutes);
            BigInteger d = BigInteger.valueOf(9103);
            for (long v : values(minutes)) {
                d = d.multiply(BigInteger.valueOf(31)).add(BigInteger.valueOf(v));
            }
            Check.same("digest at " + minutes, m.digest(), d.longValue());
        }
    }

    /** The digest's values in their order; each part is asked of an object of its own, as 512 calls are the most. */
    private static List<Long> values(int minutes) {
        List<Long> all = new ArrayList<>();
        ManorLoops m = Houses.full();
        m.pass(minutes);
        for (int what = 0; what <= 12; what++) {
            all.add((long) m.many(what));
        }
        for (int room = 0; room < 8; room++) {
            for (int what = 0; what <= 4; what++) {
                all.add((long) m.ofRoom(room, what));
            }
            all.add((long) m.way(room, 0, 0));
            all.add((long) m.way(room, 0, 1));
        }
        addPlay(all, minutes);
        addGuests(all, minutes);
        all.add((long) m.wouldCut(9));
        return all;
    }

    private static void addPlay(List<Long> all, int minutes) {
        ManorLoops m = Houses.full();
        m.pass(minutes);
        for (int track = 0; track < 5; track++) {
            for (int what = 0; what <= 4; what++) {
                all.add((long) m.ofTrack(track, what));
            }
            all.add((long) m.doubles(track));
        }
        for (int scene = 0; scene < 12; scene++) {
            for (int what = 0; what <= 10; what++) {
                all.add((long) m.ofScene(scene, what));
            }
        }
        for (int prop = 0; prop < 4; prop++) {
            for (int what = 0; what <= 4; what++) {
                all.add((long) m.ofProp(prop, what));
            }
        }
    }

    private static void addGuests(List<Long> all, int minutes) {
        ManorLoops m = Houses.full();
        m.pass(minutes);
        for (int guest = 0; guest < 12; guest++) {
            for (int what = 0; what <= 6; what++) {
                all.add((long) m.ofGuest(guest, what));
            }
            all.add((long) m.wouldKnow(guest, 5));
            all.add((long) m.seen(guest, 0));
        }
    }

    /** Twelve scenes in a room to which there is no way; eleven guests that crowd at a door to a full room. */
    private static ManorLoops unplayed() {
        ManorLoops m = new ManorLoops();
        m.room(30);
        m.room(1);
        m.room(30);
        m.door(0, 1, 6);
        m.track(1);
        for (int scene = 0; scene < 12; scene++) {
            m.scene(2, scene, 1, 1, -1);
        }
        m.guest(1);
        for (int guest = 1; guest < 12; guest++) {
            m.guest(0);
            m.habit(guest, 1, 0);
        }
        return m;
    }

    /** One room with all tracks, props and guests; a first scene for each track, and a long one from 10 on. */
    private static ManorLoops allInOne() {
        ManorLoops m = Houses.crowd();
        for (int scene = 0; scene < 7; scene++) {
            m.scene(0, 1 + scene, 1, 1, -1);
        }
        for (int track = 0; track < 5; track++) {
            m.scene(0, 10, 8, 1 << track, -1);
        }
        return m;
    }

    /** Twelve scenes of a minute each, one behind the other, in the room where all guests are. */
    private static ManorLoops lessons() {
        ManorLoops m = Houses.crowd();
        for (int scene = 0; scene < 12; scene++) {
            m.scene(0, 1 + scene, 1, 1, -1);
        }
        return m;
    }

    private static ManorLoops learned() {
        ManorLoops m = lessons();
        m.pass(12);
        return m;
    }
}
