/** Promises 23 to 27: what would be, and the digest. */
public final class OutlookTest {
    private static final int[] WILD = {-1, -2, Integer.MIN_VALUE, Integer.MAX_VALUE};
    private static final int[] MINUTES = {1, 2, 3, 4, 5, 9, 20, 40};
    private static final int HOUSES = 4;

    public static void main(String[] args) {
        Check.runAll(OutlookTest.class);
    }

    private static void promise23WouldKnow() {
        ManorLoops m = evening();
        Check.same("1 minute", m.wouldKnow(0, 1), 0);
        Check.same("3 minutes", m.wouldKnow(0, 3), 0);
        Check.same("4 minutes", m.wouldKnow(0, 4), 1);
        Check.same("40 minutes", m.wouldKnow(0, 40), 1);
        m.habit(0, 3, 0);
        Check.same("by seeking", m.wouldKnow(0, 40), 2);
        Check.same("it would not know now", m.ofGuest(0, 4), 0);
        m.pass(4);
        Check.same("it does then", m.wouldKnow(0, 1), 1);
    }

    private static void promise23Behind600() {
        ManorLoops m = evening();
        m.habit(0, 3, 0);
        for (int i = 0; i < 10; i++) {
            m.pass(60);
        }
        m.guest(0);
        m.habit(1, 3, 0);
        Check.same("NOW", m.many(0), 600);
        Check.same("behind 600", m.wouldKnow(1, 40), 2);
        Check.same("best behind 600", m.bestHabit(1, 40), 3);
        Check.same("cut behind 600", m.wouldCut(40), 2);
        Check.same("NOW still", m.many(0), 600);
    }

    private static void promise24BestHabit() {
        ManorLoops m = evening();
        Check.same("nothing is known in one minute", m.bestHabit(0, 1), 0);
        Check.same("to stay", m.bestHabit(0, 5), 0);
        Check.same("to wander to the other one in time", m.bestHabit(0, 20), 2);
        m.guest(1);
        Check.same("to seek, as no room has fewer", m.bestHabit(0, 20), 3);
        m.habit(0, 1, 1);
        Check.same("whatever the habit is", m.bestHabit(0, 20), 3);
        Check.same("the habit is the same", m.ofGuest(0, 2), 1);

        ManorLoops late = new ManorLoops();
        late.room(4);
        late.room(4);
        late.room(4);
        late.door(0, 1, 2);
        late.door(1, 2, 2);
        late.track(0);
        late.track(1);
        late.scene(2, 5, 1, 2, -1);
        late.guest(0);
        late.pass(3);
        Check.same("to follow, as it is short and far", late.bestHabit(0, 4), 11);
        late.habit(0, 1, 1);
        Check.same("the known ones", late.wouldKnow(0, 4), 1);

        ManorLoops first = new ManorLoops();
        first.room(4);
        first.room(4);
        first.room(4);
        first.door(0, 1, 2);
        first.door(1, 2, 2);
        first.track(1);
        first.scene(2, 2, 1, 1, -1);
        first.guest(0);
        Check.same("to follow track 0", first.bestHabit(0, 2), 10);
    }

    /** Who went to room 0 at once would be there in time, but no track that is there leads to it. */
    private static void promise24TracksThatAreThereAlone() {
        ManorLoops m = Houses.rooms(5, 4);
        m.door(0, 1, 6);
        m.door(1, 2, 6);
        m.door(0, 3, 6);
        m.door(3, 4, 6);
        m.door(4, 2, 6);
        m.track(2);
        m.scene(0, 2, 1, 1, -1);
        m.guest(4);
        Check.same("no habit is in time", m.bestHabit(0, 3), 0);
        m.track(0);
        Check.same("behind track 1 it is", m.bestHabit(0, 3), 11);
    }

    /** What would be is compared with what is, on another object to which the same was done. */
    private static void promise23And25AsPassDoes() {
        for (int house = 0; house < HOUSES; house++) {
            for (int now = 0; now <= 44; now++) {
                ManorLoops m = house(house, now);
                int knew = m.ofScene(2, 10);
                for (int minutes : MINUTES) {
                    ManorLoops later = house(house, now);
                    later.pass(minutes);
                    String what = minutes + " minutes from " + now + " in house " + house;
                    Check.same("CUT in " + what, m.wouldCut(minutes), later.many(9) - m.many(9));
                    for (int guest = 0; guest < m.many(6); guest += 3) {
                        int known = Integer.bitCount(later.ofGuest(guest, 4));
                        Check.same("KNOWN by " + guest + " in " + what, m.wouldKnow(guest, minutes), known);
                    }
                }
                Check.same("nothing is changed", m.ofScene(2, 10), knew);
            }
        }
    }

    private static void promise24AsPassDoesWithEachHabit() {
        for (int house = 0; house < HOUSES; house++) {
            for (int now = 0; now <= 24; now += 2) {
                ManorLoops m = house(house, now);
                for (int guest = 0; guest < m.many(6); guest++) {
                    for (int minutes : MINUTES) {
                        Check.same("of " + guest + " for " + minutes + " from " + now + " in house " + house,
                            m.bestHabit(guest, minutes), bestByPass(house, now, guest, minutes));
                    }
                }
            }
        }
    }

    private static int bestByPass(int house, int now, int guest, int minutes) {
        int[] answers = {0, 2, 3, 10, 11, 12, 13, 14};
        int best = -1;
        int most = -1;
        for (int i = 0; i < 3 + house(house, 0).many(3); i++) {
            ManorLoops m = house(house, now);
            m.habit(guest, answers[i] < 10 ? answers[i] : 1, answers[i] - 10);
            m.pass(minutes);
            int known = Integer.bitCount(m.ofGuest(guest, 4));
            if (known > most) {
                best = answers[i];
                most = known;
            }
        }
        return best;
    }

    private static void promise24OfSeveral() {
        ManorLoops m = new ManorLoops();
        m.room(4);
        m.room(4);
        m.door(0, 1, 2);
        m.track(1);
        m.track(1);
        m.scene(1, 1, 4, 1, -1);
        m.guest(0);
        Check.same("to wander is the smallest", m.bestHabit(0, 5), 2);
        m.guest(1);
        m.guest(1);
        Check.same("to seek is the smallest", m.bestHabit(0, 5), 3);
        Check.same("for who is there", m.bestHabit(1, 5), 0);

        ManorLoops none = new ManorLoops();
        none.room(1);
        none.guest(0);
        Check.same("without scenes", none.bestHabit(0, 40), 0);
    }

    private static void promise25WouldCut() {
        ManorLoops m = evening();
        Check.same("15 minutes", m.wouldCut(15), 0);
        Check.same("16 minutes: one that is late", m.wouldCut(16), 1);
        Check.same("20 minutes", m.wouldCut(20), 1);
        Check.same("36 minutes", m.wouldCut(36), 2);
        Check.same("none is now", m.many(9), 0);
        m.pass(16);
        Check.same("behind the first one", m.wouldCut(19), 0);
        Check.same("the second one", m.wouldCut(20), 1);

        ManorLoops doubled = new ManorLoops();
        doubled.room(1);
        doubled.room(1);
        doubled.track(0);
        doubled.track(1);
        doubled.scene(1, 1, 1, 2, -1);
        Check.same("in time", doubled.wouldCut(5), 0);
        doubled.play(1, 0);
        Check.same("played by one that does not come", doubled.wouldCut(5), 1);

        ManorLoops end = new ManorLoops();
        end.room(1);
        end.track(0);
        end.scene(0, 18, 2, 1, -1);
        Check.same("by the loop's end", end.wouldCut(20), 1);
        Check.same("not ahead of it", end.wouldCut(19), 0);
        Check.same("twice", end.wouldCut(40), 2);
    }

    private static void promise25LateAlready() {
        for (int late = 0; late < 5; late++) {
            ManorLoops m = Houses.rooms(2, 1);
            m.track(0);
            m.track(1);
            m.scene(1, 1, 8, 2, -1);
            m.scene(1, 4, 2, 1, -1);
            m.pass(3 + late);
            Check.same("LATE", m.ofScene(1, 7), late);
            Check.same("with the fifth LATE minute", m.wouldCut(5 - late), 1);
            if (late < 4) {
                Check.same("ahead of it", m.wouldCut(4 - late), 0);
            }
            Check.same("LATE still", m.ofScene(1, 7), late);
        }
    }

    private static void promise25PropThatATrackHolds() {
        for (int track = 0; track < 5; track++) {
            ManorLoops m = Houses.cast(2);
            m.scene(0, 1, 1, 1 << track, 0);
            m.scene(0, 10, 1, 1 << track, 0);
            m.scene(0, 12, 1, 1 << (track + 1) % 5, 0);
            m.pass(5);
            Check.same("in the LOOP, of " + track, m.wouldCut(10), 0);
            Check.same("the one without it, of " + track, m.wouldCut(11), 1);
            Check.same("in two LOOPS, of " + track, m.wouldCut(31), 2);
        }
    }

    private static void promise25PropThatAGuestHolds() {
        for (int guest = 0; guest < 3; guest++) {
            ManorLoops m = new ManorLoops();
            m.room(3);
            m.track(0);
            m.prop(0);
            m.scene(0, 5, 1, 1, 0);
            for (int i = 0; i < 3; i++) {
                m.guest(0);
            }
            Check.same("as it lies there", m.wouldCut(40), 0);
            m.take(guest, 0);
            Check.same("HELD by " + guest + " for 8 minutes", m.wouldCut(8), 0);
            Check.same("HELD by " + guest + " for 9 minutes", m.wouldCut(9), 1);
            Check.same("HELD by " + guest + " for two LOOPS", m.wouldCut(40), 2);
            m.pass(12);
            m.leave(guest);
            Check.same("when it lies again", m.wouldCut(40), 0);
        }
    }

    private static void promise23InTheMiddleOfAScene() {
        for (int length = 1; length <= 8; length++) {
            for (int passed = 1; passed <= length; passed++) {
                ManorLoops m = new ManorLoops();
                m.room(30);
                m.track(0);
                m.scene(0, 1, length, 1, -1);
                m.pass(passed);
                m.guest(0);
                int due = length - passed >= (length + 1) / 2 ? 1 : 0;
                Check.same(passed + " of " + length + " have passed", m.wouldKnow(0, 10), due);
                Check.same(passed + " of " + length + ", the next LOOP too", m.wouldKnow(0, 40), 1);
            }
        }
    }

    private static void promise23PropThatIsHome() {
        ManorLoops m = new ManorLoops();
        m.room(3);
        m.track(0);
        m.track(0);
        m.prop(0);
        m.scene(0, 0, 1, 1, 0);
        m.scene(0, 3, 1, 3, 0);
        m.guest(0);
        m.pass(9);
        Check.same("HELD by the greater TRACK", m.ofProp(0, 2), 1);
        Check.same("the first LOOP's", m.ofGuest(0, 4), 3);
        m.guest(0);
        Check.same("nothing in this LOOP", m.wouldKnow(1, 10), 0);
        Check.same("it lies at home in the next one", m.wouldKnow(1, 11), 1);
        Check.same("both are known there", m.wouldKnow(1, 14), 2);
    }

    private static void promise26Doubles() {
        ManorLoops m = unlikeTracks();
        Check.same("of 0", m.doubles(0), 4 + 8 + 16);
        Check.same("of 1", m.doubles(1), 16);
        Check.same("of 2", m.doubles(2), 1 + 8 + 16);
        Check.same("of 3", m.doubles(3), 1 + 4 + 16);
        Check.same("of 4", m.doubles(4), 15);
        m.play(4, 3);
        Check.same("of 0 then", m.doubles(0), 4);
        Check.same("of who is played", m.doubles(4), 0);
        Check.same("of who plays", m.doubles(3), 0);
        m.pass(1);
        Check.same("of who is in a scene", m.doubles(0), 0);
        Check.same("by none that is in a scene", m.doubles(2), 0);
        m.pass(3);
        Check.same("in the same minute none", m.doubles(2), 0);
    }

    private static void promise23To26Wrong() {
        ManorLoops m = evening();
        Check.noIndex(m, "wouldKnow guest 1", () -> m.wouldKnow(1, 1));
        Check.noIndex(m, "wouldKnow guest ahead of minutes", () -> m.wouldKnow(1, 0));
        Check.noArgument(m, "wouldKnow 0 minutes", () -> m.wouldKnow(0, 0));
        Check.noArgument(m, "wouldKnow 41 minutes", () -> m.wouldKnow(0, 41));
        Check.noIndex(m, "bestHabit guest 1", () -> m.bestHabit(1, 1));
        Check.noIndex(m, "bestHabit guest ahead of minutes", () -> m.bestHabit(1, 0));
        Check.noArgument(m, "bestHabit 0 minutes", () -> m.bestHabit(0, 0));
        Check.noArgument(m, "bestHabit 41 minutes", () -> m.bestHabit(0, 41));
        Check.noArgument(m, "wouldCut 0 minutes", () -> m.wouldCut(0));
        Check.noArgument(m, "wouldCut 41 minutes", () -> m.wouldCut(41));
        Check.noIndex(m, "doubles 2", () -> m.doubles(2));
        for (int wild : WILD) {
            Check.noIndex(m, "wouldKnow guest " + wild, () -> m.wouldKnow(wild, 1));
            Check.noArgument(m, "wouldKnow minutes " + wild, () -> m.wouldKnow(0, wild));
            Check.noIndex(m, "bestHabit guest " + wild, () -> m.bestHabit(wild, 1));
            Check.noArgument(m, "bestHabit minutes " + wild, () -> m.bestHabit(0, wild));
            Check.noArgument(m, "wouldCut minutes " + wild, () -> m.wouldCut(wild));
            Check.noIndex(m, "doubles " + wild, () -> m.doubles(wild));
        }
    }

    private static void promise23To27ChangeNothing() {
        ManorLoops asked = evening();
        ManorLoops quiet = evening();
        for (int i = 0; i < 40; i++) {
            asked.wouldKnow(0, 1 + i);
            asked.bestHabit(0, 40 - i);
            asked.wouldCut(1 + i);
            asked.doubles(i % 2);
            Check.same("digest", asked.digest(), quiet.digest());
            Check.same("pass", asked.pass(1), quiet.pass(1));
        }
    }

    private static void promise27Digest() {
        ManorLoops m = new ManorLoops();
        long d = 9103;
        for (int i = 0; i < 14; i++) {
            d = d * 31;
        }
        Check.same("of a new object", m.digest(), d);
        m.room(7);
        m.room(3);
        long[] values = {0, 2, 0, 0, 0, 0, 0, 0, 0, 0, 0, 0, 0, 7, 0, 0, 0, 0, 0, 0, 3, 0, 0, 0, 0, -1, -1, 0};
        d = 9103;
        for (long v : values) {
            d = d * 31 + v;
        }
        Check.same("of two rooms", m.digest(), d);
    }

    private static void promise27DigestOfPlay() {
        ManorLoops m = evening();
        m.track(2);
        m.prop(1);
        m.guest(0);
        m.pass(4);
        m.take(1, 0);
        Check.same("of a play", m.digest(), fold(m));
        m.pass(5);
        m.play(2, 0);
        m.pass(30);
        Check.same("of a play with a double", m.digest(), fold(m));
        for (int minutes = 1; minutes <= 30; minutes++) {
            ManorLoops other = evening();
            other.habit(0, 3, 0);
            other.pass(minutes);
            Check.same("at " + minutes, other.digest(), fold(other));
        }
        ManorLoops one = new ManorLoops();
        one.room(2);
        one.track(0);
        one.scene(0, 1, 4, 1, -1);
        one.guest(0);
        one.pass(2);
        Check.same("with one scene", one.digest(), fold(one));
        ManorLoops bare = new ManorLoops();
        bare.room(2);
        bare.guest(0);
        Check.same("without a scene", bare.digest(), fold(bare));
    }

    private static void promise27DigestOfEachHouse() {
        for (int house = 0; house < HOUSES; house++) {
            for (int now = 0; now <= 60; now++) {
                ManorLoops m = house(house, now);
                Check.same("of house " + house + " at " + now, m.digest(), fold(house(house, now)));
            }
        }
    }

    private static void promise27DigestOfUnlikeDoubles() {
        ManorLoops m = unlikeTracks();
        Check.same("at first", m.digest(), fold(m));
        m.play(4, 3);
        Check.same("with a double", m.digest(), fold(m));
        m.pass(1);
        Check.same("with a scene", m.digest(), fold(m));
    }

    private static long fold(ManorLoops m) {
        long d = 9103;
        for (int what = 0; what <= 12; what++) {
            d = d * 31 + m.many(what);
        }
        for (int room = 0; room < m.many(1); room++) {
            for (int what = 0; what <= 4; what++) {
                d = d * 31 + m.ofRoom(room, what);
            }
            d = (d * 31 + m.way(room, 0, 0)) * 31 + m.way(room, 0, 1);
        }
        for (int track = 0; track < m.many(3); track++) {
            for (int what = 0; what <= 4; what++) {
                d = d * 31 + m.ofTrack(track, what);
            }
            d = d * 31 + m.doubles(track);
        }
        for (int scene = 0; scene < m.many(4); scene++) {
            for (int what = 0; what <= 10; what++) {
                d = d * 31 + m.ofScene(scene, what);
            }
        }
        for (int prop = 0; prop < m.many(5); prop++) {
            for (int what = 0; what <= 4; what++) {
                d = d * 31 + m.ofProp(prop, what);
            }
        }
        for (int guest = 0; guest < m.many(6); guest++) {
            for (int what = 0; what <= 6; what++) {
                d = d * 31 + m.ofGuest(guest, what);
            }
            d = d * 31 + m.wouldKnow(guest, 5);
            if (m.many(4) > 0) {
                d = d * 31 + m.seen(guest, 0);
            }
        }
        return d * 31 + m.wouldCut(9);
    }

    /**
     * A guest in room 0, where scene 0 runs from minute 1 on for 7; scene 1 in room 1 from 4 on for 8; scene 2 in
     * room 2, to which nobody comes, from 12 on.
     */
    private static ManorLoops evening() {
        ManorLoops m = new ManorLoops();
        m.room(4);
        m.room(4);
        m.room(4);
        m.door(0, 1, 2);
        m.track(0);
        m.track(1);
        m.prop(0);
        m.scene(0, 1, 7, 1, -1);
        m.scene(1, 4, 8, 2, -1);
        m.scene(2, 12, 2, 2, -1);
        m.guest(0);
        return m;
    }

    /** Five tracks in one room, each of which could be played by others. */
    private static ManorLoops unlikeTracks() {
        ManorLoops m = new ManorLoops();
        m.room(1);
        for (int track = 0; track < 5; track++) {
            m.track(0);
        }
        m.scene(0, 0, 4, 1, -1);
        m.scene(0, 3, 2, 2, -1);
        m.scene(0, 4, 2, 4, -1);
        m.scene(0, 9, 1, 10, -1);
        return m;
    }

    /** One of some houses where much goes on, at a certain NOW. */
    private static ManorLoops house(int number, int now) {
        ManorLoops m = number == 0 ? Houses.full() : number == 1 ? Houses.middling() : evening();
        if (number >= 2) {
            m.track(2);
            m.guest(1);
            m.guest(0);
            m.habit(1, 2, 0);
            m.habit(2, 1, 2);
            m.take(number == 2 ? 0 : 2, 0);
            m.play(number == 2 ? 2 : 0, number == 2 ? 1 : 2);
        }
        for (int passed = 0; passed < now; passed += 15) {
            m.pass(Math.min(15, now - passed));
        }
        return m;
    }
}
