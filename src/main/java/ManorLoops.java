import java.util.Arrays;

/** A play in many rooms at once, in loops. The words in capitals are those of the document. */
public final class ManorLoops {
    private static final int NONE = -1;

    private static final int MAX_ROOMS = 8;
    private static final int MAX_DOORS = 14;
    private static final int MAX_TRACKS = 5;
    private static final int MAX_PROPS = 4;
    private static final int MAX_SCENES = 12;
    private static final int MAX_GUESTS = 12;

    private static final int MAX_CAPACITY = 30;
    private static final int MAX_WIDTH = 6;
    private static final int MAX_START = 18;
    private static final int MAX_LENGTH = 8;

    private static final int LOOP_MINUTES = 20;
    private static final int MAX_NOW = 600;
    private static final int MAX_PASS = 60;
    private static final int MAX_OUTLOOK = 40;
    private static final int LATE_TO_CUT = 5;

    private static final int WAITS = 0;
    private static final int RUNS = 1;
    private static final int DONE = 2;
    private static final int CUT = 3;

    private static final int STAY = 0;
    private static final int FOLLOW = 1;
    private static final int WANDER = 2;
    private static final int SEEK = 3;
    private static final int FIRST_FOLLOW_ANSWER = 10;

    private static final long DIGEST_START = 9103;
    private static final int DIGEST_KNOW_MINUTES = 5;
    private static final int DIGEST_CUT_MINUTES = 9;

    private final House house;
    private final Script script;
    private final Evening actual;
    /** What would be is played here, so that the actual evening is left alone and no call makes an object. */
    private final Evening trial;

    public ManorLoops() {
        house = new House();
        script = new Script();
        actual = new Evening(house, script);
        trial = new Evening(house, script);
    }

    // ---- what is told

    public int room(int capacity) throws IllegalArgumentException, IllegalStateException {
        if (capacity < 1 || capacity > MAX_CAPACITY) {
            throw new IllegalArgumentException("a CAPACITY is 1 to 30");
        }
        if (house.rooms >= MAX_ROOMS) {
            throw new IllegalStateException("there are 8 ROOMS");
        }
        return house.addRoom(capacity);
    }

    public int door(int one, int other, int width)
            throws IndexOutOfBoundsException, IllegalArgumentException, IllegalStateException {
        checkRoom(one);
        checkRoom(other);
        if (one == other || width < 1 || width > MAX_WIDTH) {
            throw new IllegalArgumentException("a DOOR is between two ROOMS, with a WIDTH of 1 to 6");
        }
        if (house.doors >= MAX_DOORS || house.doorBetween.get(one, other) != NONE) {
            throw new IllegalStateException("there are 14 DOORS, or the ROOMS have one");
        }
        return house.addDoor(one, other, width);
    }

    public int track(int home) throws IndexOutOfBoundsException, IllegalStateException {
        checkRoom(home);
        if (script.tracks >= MAX_TRACKS) {
            throw new IllegalStateException("there are 5 TRACKS");
        }
        int track = script.addTrack(home);
        actual.cast.enter(track, home);
        return track;
    }

    public int prop(int home) throws IndexOutOfBoundsException, IllegalStateException {
        checkRoom(home);
        if (script.props >= MAX_PROPS) {
            throw new IllegalStateException("there are 4 PROPS");
        }
        int prop = script.addProp(home);
        actual.props.lay(prop, home);
        return prop;
    }

    public int scene(int room, int start, int length, int tracks, int prop)
            throws IndexOutOfBoundsException, IllegalArgumentException, IllegalStateException {
        checkRoom(room);
        if (prop != NONE) {
            checkProp(prop);
        }
        checkTime(start, length);
        if (!script.areTracks(tracks)) {
            throw new IllegalArgumentException("no TRACKS, or none");
        }
        if (actual.now > 0 || script.scenes >= MAX_SCENES
                || script.overlapsSceneOf(tracks, start, length) || actual.cast.anyIsPlayed()) {
            throw new IllegalStateException("the SCENE can not be told now");
        }
        return script.addScene(room, start, length, tracks, prop);
    }

    public int guest(int room) throws IndexOutOfBoundsException, IllegalStateException {
        checkRoom(room);
        if (actual.audience.count >= MAX_GUESTS || actual.isFull(room)) {
            throw new IllegalStateException("there are 12 GUESTS, or the ROOM is full");
        }
        return actual.audience.enter(room);
    }

    public int habit(int guest, int habit, int track) throws IndexOutOfBoundsException, IllegalArgumentException {
        checkGuest(guest);
        if (habit == FOLLOW) {
            checkTrack(track);
        }
        if (habit < STAY || habit > SEEK) {
            throw new IllegalArgumentException("a HABIT is 0 to 3");
        }
        int before = actual.audience.habit.get(guest);
        actual.audience.changeHabit(guest, habit, track);
        return before;
    }

    // ---- what is done

    public int pass(int minutes) throws IllegalArgumentException, IllegalStateException {
        checkMinutes(minutes, MAX_PASS);
        if (actual.now + minutes > MAX_NOW) {
            throw new IllegalStateException("NOW would be above 600");
        }
        int before = actual.stage.doneEver.sum();
        actual.run(minutes);
        return actual.stage.doneEver.sum() - before;
    }

    public int take(int guest, int prop) throws IndexOutOfBoundsException, IllegalStateException {
        checkGuest(guest);
        checkProp(prop);
        if (!actual.canTake(guest, prop)) {
            throw new IllegalStateException("the GUEST can not TAKE the PROP");
        }
        actual.props.giveToGuest(prop, guest);
        return Integer.bitCount(actual.props.readers.get(prop));
    }

    public int leave(int guest) throws IndexOutOfBoundsException, IllegalStateException {
        checkGuest(guest);
        int prop = actual.props.heldByGuest(guest);
        if (prop == NONE) {
            throw new IllegalStateException("the GUEST HOLDS no PROP");
        }
        actual.props.lay(prop, actual.audience.room.get(guest));
        return prop;
    }

    public int play(int track, int by)
            throws IndexOutOfBoundsException, IllegalArgumentException, IllegalStateException {
        checkTrack(track);
        checkTrack(by);
        if (track == by) {
            throw new IllegalArgumentException("a TRACK is not PLAYED by itself");
        }
        if (!actual.canDouble(track, by)) {
            throw new IllegalStateException("the TRACK can not be PLAYED by the other one");
        }
        actual.cast.startDouble(track, by);
        return script.countScenesOf(1 << track | 1 << by);
    }

    public int part(int track) throws IndexOutOfBoundsException, IllegalStateException {
        checkTrack(track);
        int by = actual.cast.player.get(track);
        if (by == NONE || (actual.stage.busyTracks() & (1 << track | 1 << by)) != 0) {
            throw new IllegalStateException("the TRACK is PLAYED by none, or one is in a SCENE that RUNS");
        }
        actual.cast.endDouble(track);
        return by;
    }

    // ---- what one asks

    public int ofRoom(int room, int what) throws IndexOutOfBoundsException, IllegalArgumentException {
        checkRoom(room);
        checkWhat(what, 4);
        switch (what) {
            case 0: return house.capacity.get(room);
            case 1: return actual.audience.crowd.get(room);
            case 2: return actual.cast.setIn(room);
            case 3: return actual.stage.runningIn(room);
            default: return actual.props.lyingIn(room);
        }
    }

    public int way(int from, int to, int what) throws IndexOutOfBoundsException, IllegalArgumentException {
        checkRoom(from);
        checkRoom(to);
        checkWhat(what, 1);
        return what == 0 ? house.doorsOnWay.get(from, to) : house.nextOnWay.get(from, to);
    }

    public int ofTrack(int track, int what) throws IndexOutOfBoundsException, IllegalArgumentException {
        checkTrack(track);
        checkWhat(what, 4);
        Cast cast = actual.cast;
        switch (what) {
            case 0: return cast.room.get(track);
            case 1: return actual.stage.runningWith(track);
            case 2: return actual.stage.nextSceneOf(cast.rolesOf(track));
            case 3: return cast.player.get(track);
            default: return cast.walks.get(track);
        }
    }

    public int ofScene(int scene, int what) throws IndexOutOfBoundsException, IllegalArgumentException {
        checkScene(scene);
        checkWhat(what, 10);
        Stage stage = actual.stage;
        switch (what) {
            case 0: return script.room.get(scene);
            case 1: return script.start.get(scene);
            case 2: return script.length.get(scene);
            case 3: return script.roles.get(scene);
            case 4: return script.prop.get(scene);
            case 5: return stage.phase.get(scene);
            case 6: return stage.left.get(scene);
            case 7: return stage.late.get(scene);
            case 8: return stage.doneEver.get(scene);
            case 9: return stage.cutEver.get(scene);
            default: return actual.audience.countKnowing(scene);
        }
    }

    public int ofGuest(int guest, int what) throws IndexOutOfBoundsException, IllegalArgumentException {
        checkGuest(guest);
        checkWhat(what, 6);
        Audience audience = actual.audience;
        switch (what) {
            case 0: return audience.room.get(guest);
            case 1: return audience.habit.get(guest);
            case 2: return audience.followed.get(guest);
            case 3: return actual.props.heldByGuest(guest);
            case 4: return audience.known.get(guest);
            case 5: return audience.walks.get(guest);
            default: return audience.blocked.get(guest);
        }
    }

    public int ofProp(int prop, int what) throws IndexOutOfBoundsException, IllegalArgumentException {
        checkProp(prop);
        checkWhat(what, 4);
        switch (what) {
            case 0: return script.propHome.get(prop);
            case 1: return actual.roomOfProp(prop);
            case 2: return actual.props.track.get(prop);
            case 3: return actual.props.guest.get(prop);
            default: return actual.props.readers.get(prop);
        }
    }

    public int seen(int guest, int scene) throws IndexOutOfBoundsException {
        checkGuest(guest);
        checkScene(scene);
        return actual.audience.minutesSeen.get(guest, scene);
    }

    public int many(int what) throws IllegalArgumentException {
        checkWhat(what, 12);
        switch (what) {
            case 0: return actual.now;
            case 1: return house.rooms;
            case 2: return house.doors;
            case 3: return script.tracks;
            case 4: return script.scenes;
            case 5: return script.props;
            case 6: return actual.audience.count;
            case 7: return actual.stage.countRunning();
            case 8: return actual.stage.doneEver.sum();
            case 9: return actual.stage.cutEver.sum();
            case 10: return actual.stage.lateEver;
            case 11: return script.scenes - Integer.bitCount(actual.audience.knownByAny());
            default: return actual.audience.blocked.sum();
        }
    }

    public double meanKnown() {
        int guests = actual.audience.count;
        return guests > 0 ? (double) actual.audience.countKnown() / guests : 0;
    }

    // ---- what would be

    public int wouldKnow(int guest, int minutes) throws IndexOutOfBoundsException, IllegalArgumentException {
        checkGuest(guest);
        checkMinutes(minutes, MAX_OUTLOOK);
        trial.copyFrom(actual);
        trial.run(minutes);
        return trial.audience.countKnownBy(guest);
    }

    public int bestHabit(int guest, int minutes) throws IndexOutOfBoundsException, IllegalArgumentException {
        checkGuest(guest);
        checkMinutes(minutes, MAX_OUTLOOK);
        int best = NONE;
        int most = NONE;
        for (int answer = STAY; answer < FIRST_FOLLOW_ANSWER + script.tracks; answer++) {
            if (standsForHabit(answer)) {
                trial.copyFrom(actual);
                trial.audience.changeHabit(guest, habitBehind(answer), answer - FIRST_FOLLOW_ANSWER);
                trial.run(minutes);
                int known = trial.audience.countKnownBy(guest);
                if (known > most) {
                    best = answer;
                    most = known;
                }
            }
        }
        return best;
    }

    public int wouldCut(int minutes) throws IllegalArgumentException {
        checkMinutes(minutes, MAX_OUTLOOK);
        trial.copyFrom(actual);
        trial.run(minutes);
        return countCutsOfTrial();
    }

    public int doubles(int track) throws IndexOutOfBoundsException {
        checkTrack(track);
        int set = 0;
        for (int by = 0; by < script.tracks; by++) {
            if (by != track && actual.canDouble(track, by)) {
                set |= 1 << by;
            }
        }
        return set;
    }

    public long digest() {
        long d = DIGEST_START;
        for (int what = 0; what <= 12; what++) {
            d = fold(d, many(what));
        }
        d = foldRooms(d);
        d = foldTracks(d);
        d = foldScenes(d);
        d = foldProps(d);
        trial.copyFrom(actual);
        trial.run(DIGEST_KNOW_MINUTES);
        d = foldGuests(d);
        trial.run(DIGEST_CUT_MINUTES - DIGEST_KNOW_MINUTES);
        return fold(d, countCutsOfTrial());
    }

    // ---- inside

    private static long fold(long d, long v) {
        return d * 31 + v;
    }

    private long foldRooms(long start) {
        long d = start;
        for (int room = 0; room < house.rooms; room++) {
            for (int what = 0; what <= 4; what++) {
                d = fold(d, ofRoom(room, what));
            }
            d = fold(d, way(room, 0, 0));
            d = fold(d, way(room, 0, 1));
        }
        return d;
    }

    private long foldTracks(long start) {
        long d = start;
        for (int track = 0; track < script.tracks; track++) {
            for (int what = 0; what <= 4; what++) {
                d = fold(d, ofTrack(track, what));
            }
            d = fold(d, doubles(track));
        }
        return d;
    }

    private long foldScenes(long start) {
        long d = start;
        for (int scene = 0; scene < script.scenes; scene++) {
            for (int what = 0; what <= 10; what++) {
                d = fold(d, ofScene(scene, what));
            }
        }
        return d;
    }

    private long foldProps(long start) {
        long d = start;
        for (int prop = 0; prop < script.props; prop++) {
            for (int what = 0; what <= 4; what++) {
                d = fold(d, ofProp(prop, what));
            }
        }
        return d;
    }

    /** The trial has gone on by the digest's minutes already: one look ahead serves all GUESTS. */
    private long foldGuests(long start) {
        long d = start;
        for (int guest = 0; guest < actual.audience.count; guest++) {
            for (int what = 0; what <= 6; what++) {
                d = fold(d, ofGuest(guest, what));
            }
            d = fold(d, trial.audience.countKnownBy(guest));
            if (script.scenes > 0) {
                d = fold(d, seen(guest, 0));
            }
        }
        return d;
    }

    private int countCutsOfTrial() {
        return trial.stage.cutEver.sum() - actual.stage.cutEver.sum();
    }

    private static boolean standsForHabit(int answer) {
        return answer == STAY || answer == WANDER || answer == SEEK || answer >= FIRST_FOLLOW_ANSWER;
    }

    private static int habitBehind(int answer) {
        return answer >= FIRST_FOLLOW_ANSWER ? FOLLOW : answer;
    }

    private void checkRoom(int room) {
        if (room < 0 || room >= house.rooms) {
            throw new IndexOutOfBoundsException("no such ROOM");
        }
    }

    private void checkTrack(int track) {
        if (track < 0 || track >= script.tracks) {
            throw new IndexOutOfBoundsException("no such TRACK");
        }
    }

    private void checkProp(int prop) {
        if (prop < 0 || prop >= script.props) {
            throw new IndexOutOfBoundsException("no such PROP");
        }
    }

    private void checkScene(int scene) {
        if (scene < 0 || scene >= script.scenes) {
            throw new IndexOutOfBoundsException("no such SCENE");
        }
    }

    private void checkGuest(int guest) {
        if (guest < 0 || guest >= actual.audience.count) {
            throw new IndexOutOfBoundsException("no such GUEST");
        }
    }

    private static void checkWhat(int what, int greatest) {
        if (what < 0 || what > greatest) {
            throw new IllegalArgumentException("nothing has this number to be asked by");
        }
    }

    private static void checkMinutes(int minutes, int greatest) {
        if (minutes < 1 || minutes > greatest) {
            throw new IllegalArgumentException("too few or too many minutes");
        }
    }

    private static void checkTime(int start, int length) {
        if (start < 0 || start > MAX_START || length < 1 || length > MAX_LENGTH
                || start + length > LOOP_MINUTES) {
            throw new IllegalArgumentException("a SCENE starts at 0 to 18 and lasts 1 to 8, to 20 at most");
        }
    }

    /** Numbers in a row. Every index is tested here, so that no other class needs to: outside, nothing is changed. */
    private static final class Row {
        private final int[] cells;

        Row(int length) {
            cells = new int[length > 0 ? length : 0];
        }

        int get(int index) {
            return index >= 0 && index < cells.length ? cells[index] : NONE;
        }

        void set(int index, int value) {
            if (index >= 0 && index < cells.length) {
                cells[index] = value;
            }
        }

        void add(int index, int more) {
            if (index >= 0 && index < cells.length) {
                cells[index] += more;
            }
        }

        void fill(int value) {
            Arrays.fill(cells, value);
        }

        int sum() {
            int sum = 0;
            for (int index = 0; index < cells.length; index++) {
                sum += cells[index];
            }
            return sum;
        }

        void copyFrom(Row other) {
            System.arraycopy(other.cells, 0, cells, 0, Math.min(other.cells.length, cells.length));
        }
    }

    /** Numbers by line and column, both tested as in a Row. */
    private static final class Grid {
        private final int columns;
        private final Row cells;

        Grid(int lines, int columns) {
            this.columns = columns;
            cells = new Row(lines * columns);
        }

        int get(int line, int column) {
            return column >= 0 && column < columns ? cells.get(line * columns + column) : NONE;
        }

        void set(int line, int column, int value) {
            if (column >= 0 && column < columns) {
                cells.set(line * columns + column, value);
            }
        }

        void fill(int value) {
            cells.fill(value);
        }

        void copyFrom(Grid other) {
            cells.copyFrom(other.cells);
        }
    }

    /** ROOMS, DOORS and the WAYS between them. */
    private static final class House {
        private int rooms;
        private int doors;
        private final Row capacity = new Row(MAX_ROOMS);
        private final Row width = new Row(MAX_DOORS);
        private final Grid doorBetween = new Grid(MAX_ROOMS, MAX_ROOMS);
        private final Grid doorsOnWay = new Grid(MAX_ROOMS, MAX_ROOMS);
        private final Grid nextOnWay = new Grid(MAX_ROOMS, MAX_ROOMS);

        House() {
            doorBetween.fill(NONE);
            doorsOnWay.fill(NONE);
            nextOnWay.fill(NONE);
        }

        int addRoom(int roomCapacity) {
            int room = rooms;
            rooms++;
            capacity.set(room, roomCapacity);
            doorsOnWay.set(room, room, 0);
            nextOnWay.set(room, room, room);
            return room;
        }

        int addDoor(int one, int other, int doorWidth) {
            int door = doors;
            doors++;
            width.set(door, doorWidth);
            doorBetween.set(one, other, door);
            doorBetween.set(other, one, door);
            shortenWays(one, other);
            for (int from = 0; from < rooms; from++) {
                for (int to = 0; to < rooms; to++) {
                    nextOnWay.set(from, to, findNext(from, to));
                }
            }
            return doors;
        }

        /** A new DOOR makes a WAY shorter only by going through it once, in one direction or the other. */
        private void shortenWays(int one, int other) {
            for (int from = 0; from < rooms; from++) {
                for (int to = 0; to < rooms; to++) {
                    shortenWay(from, to, doorsOnWay.get(from, one), doorsOnWay.get(other, to));
                    shortenWay(from, to, doorsOnWay.get(from, other), doorsOnWay.get(one, to));
                }
            }
        }

        private void shortenWay(int from, int to, int toDoor, int behindDoor) {
            if (toDoor != NONE && behindDoor != NONE) {
                int doorsNow = toDoor + 1 + behindDoor;
                int doorsBefore = doorsOnWay.get(from, to);
                if (doorsBefore == NONE || doorsNow < doorsBefore) {
                    doorsOnWay.set(from, to, doorsNow);
                }
            }
        }

        private int findNext(int from, int to) {
            int distance = doorsOnWay.get(from, to);
            if (distance <= 0) {
                return distance == 0 ? from : NONE;
            }
            for (int next = 0; next < rooms; next++) {
                if (doorBetween.get(from, next) != NONE && doorsOnWay.get(next, to) == distance - 1) {
                    return next;
                }
            }
            return NONE;
        }
    }

    /** What is told of TRACKS, PROPS and SCENES, and does not change with time. */
    private static final class Script {
        private int tracks;
        private int props;
        private int scenes;
        private final Row trackHome = new Row(MAX_TRACKS);
        private final Row propHome = new Row(MAX_PROPS);
        private final Row room = new Row(MAX_SCENES);
        private final Row start = new Row(MAX_SCENES);
        private final Row length = new Row(MAX_SCENES);
        private final Row roles = new Row(MAX_SCENES);
        private final Row prop = new Row(MAX_SCENES);

        int addTrack(int home) {
            int track = tracks;
            tracks++;
            trackHome.set(track, home);
            return track;
        }

        int addProp(int home) {
            int added = props;
            props++;
            propHome.set(added, home);
            return added;
        }

        int addScene(int sceneRoom, int sceneStart, int sceneLength, int sceneRoles, int sceneProp) {
            int scene = scenes;
            scenes++;
            room.set(scene, sceneRoom);
            start.set(scene, sceneStart);
            length.set(scene, sceneLength);
            roles.set(scene, sceneRoles);
            prop.set(scene, sceneProp);
            return scene;
        }

        boolean areTracks(int set) {
            return set > 0 && set < 1 << tracks;
        }

        boolean has(int scene, int set) {
            return (roles.get(scene) & set) != 0;
        }

        int countScenesOf(int set) {
            int count = 0;
            for (int scene = 0; scene < scenes; scene++) {
                if (has(scene, set)) {
                    count++;
                }
            }
            return count;
        }

        boolean overlapsSceneOf(int set, int from, int minutes) {
            for (int scene = 0; scene < scenes; scene++) {
                int sceneFrom = start.get(scene);
                boolean common = from < sceneFrom + length.get(scene) && sceneFrom < from + minutes;
                if (common && (roles.get(scene) & set) != 0) {
                    return true;
                }
            }
            return false;
        }

        /** A SCENE that has both TRACKS needs no test of its own, as it OVERLAPS itself. */
        boolean overlap(int oneTrack, int otherTrack) {
            for (int scene = 0; scene < scenes; scene++) {
                if (has(scene, 1 << oneTrack)
                        && overlapsSceneOf(1 << otherTrack, start.get(scene), length.get(scene))) {
                    return true;
                }
            }
            return false;
        }
    }

    /** Where the TRACKS are, and who PLAYS whom. */
    private static final class Cast {
        private final Script script;
        private final Row room = new Row(MAX_TRACKS);
        private final Row player = new Row(MAX_TRACKS);
        private final Row walks = new Row(MAX_TRACKS);

        Cast(Script script) {
            this.script = script;
        }

        void copyFrom(Cast other) {
            room.copyFrom(other.room);
            player.copyFrom(other.player);
            walks.copyFrom(other.walks);
        }

        void enter(int track, int home) {
            room.set(track, home);
            player.set(track, NONE);
        }

        void startDouble(int track, int by) {
            player.set(track, by);
            room.set(track, room.get(by));
        }

        void endDouble(int track) {
            player.set(track, NONE);
        }

        boolean anyIsPlayed() {
            for (int track = 0; track < script.tracks; track++) {
                if (player.get(track) != NONE) {
                    return true;
                }
            }
            return false;
        }

        /** The set of the TRACK itself and of one that it PLAYS. */
        int rolesOf(int track) {
            int set = 1 << track;
            for (int other = 0; other < script.tracks; other++) {
                if (player.get(other) == track) {
                    set |= 1 << other;
                }
            }
            return set;
        }

        boolean isSingle(int track) {
            return player.get(track) == NONE && rolesOf(track) == 1 << track;
        }

        /** The set, and all that PLAY or are PLAYED by one of it. */
        int withDoubles(int set) {
            int all = set;
            for (int track = 0; track < script.tracks; track++) {
                int by = player.get(track);
                if (by != NONE && (set & (1 << track | 1 << by)) != 0) {
                    all |= 1 << track | 1 << by;
                }
            }
            return all;
        }

        int setIn(int place) {
            int set = 0;
            for (int track = 0; track < script.tracks; track++) {
                if (room.get(track) == place) {
                    set |= 1 << track;
                }
            }
            return set;
        }

        void walk(int track, int to) {
            walks.add(track, 1);
            int moving = rolesOf(track);
            for (int other = 0; other < script.tracks; other++) {
                if ((moving & 1 << other) != 0) {
                    room.set(other, to);
                }
            }
        }
    }

    /** How the SCENES stand in this LOOP, and what became of them ever. */
    private static final class Stage {
        private final Script script;
        private final Row phase = new Row(MAX_SCENES);
        private final Row left = new Row(MAX_SCENES);
        private final Row late = new Row(MAX_SCENES);
        private final Row doneEver = new Row(MAX_SCENES);
        private final Row cutEver = new Row(MAX_SCENES);
        private int lateEver;

        Stage(Script script) {
            this.script = script;
        }

        void copyFrom(Stage other) {
            phase.copyFrom(other.phase);
            left.copyFrom(other.left);
            late.copyFrom(other.late);
            doneEver.copyFrom(other.doneEver);
            cutEver.copyFrom(other.cutEver);
            lateEver = other.lateEver;
        }

        boolean runs(int scene) {
            return phase.get(scene) == RUNS;
        }

        boolean waits(int scene) {
            return phase.get(scene) == WAITS;
        }

        void restart() {
            for (int scene = 0; scene < script.scenes; scene++) {
                if (waits(scene) || runs(scene)) {
                    cut(scene);
                }
                phase.set(scene, WAITS);
                late.set(scene, 0);
            }
        }

        private void cut(int scene) {
            phase.set(scene, CUT);
            left.set(scene, 0);
            cutEver.add(scene, 1);
        }

        void begin(int scene) {
            phase.set(scene, RUNS);
            left.set(scene, script.length.get(scene));
        }

        void delay(int scene) {
            late.add(scene, 1);
            lateEver++;
            if (late.get(scene) >= LATE_TO_CUT) {
                cut(scene);
            }
        }

        void goOn(int scene) {
            left.add(scene, -1);
            if (left.get(scene) <= 0) {
                phase.set(scene, DONE);
                doneEver.add(scene, 1);
            }
        }

        int busyTracks() {
            int set = 0;
            for (int scene = 0; scene < script.scenes; scene++) {
                if (phase.get(scene) == RUNS) {
                    set |= script.roles.get(scene);
                }
            }
            return set;
        }

        int nextSceneOf(int set) {
            int next = NONE;
            for (int scene = 0; scene < script.scenes; scene++) {
                if (phase.get(scene) == WAITS && script.has(scene, set)
                        && (next == NONE || script.start.get(scene) < script.start.get(next))) {
                    next = scene;
                }
            }
            return next;
        }

        int runningWith(int track) {
            for (int scene = 0; scene < script.scenes; scene++) {
                if (phase.get(scene) == RUNS && script.has(scene, 1 << track)) {
                    return scene;
                }
            }
            return NONE;
        }

        int runningIn(int place) {
            int set = 0;
            for (int scene = 0; scene < script.scenes; scene++) {
                if (phase.get(scene) == RUNS && script.room.get(scene) == place) {
                    set |= 1 << scene;
                }
            }
            return set;
        }

        int countRunning() {
            int count = 0;
            for (int scene = 0; scene < script.scenes; scene++) {
                if (phase.get(scene) == RUNS) {
                    count++;
                }
            }
            return count;
        }
    }

    /** Where the PROPS lie or who HOLDS them, and who has READ them. One that is HELD lies in the ROOM NONE. */
    private static final class Props {
        private final Script script;
        private final Row room = new Row(MAX_PROPS);
        private final Row track = new Row(MAX_PROPS);
        private final Row guest = new Row(MAX_PROPS);
        private final Row readers = new Row(MAX_PROPS);

        Props(Script script) {
            this.script = script;
        }

        void copyFrom(Props other) {
            room.copyFrom(other.room);
            track.copyFrom(other.track);
            guest.copyFrom(other.guest);
            readers.copyFrom(other.readers);
        }

        void lay(int prop, int place) {
            room.set(prop, place);
            track.set(prop, NONE);
            guest.set(prop, NONE);
        }

        void giveToTrack(int prop, int holder) {
            lay(prop, NONE);
            track.set(prop, holder);
        }

        void giveToGuest(int prop, int holder) {
            lay(prop, NONE);
            guest.set(prop, holder);
            readers.set(prop, readers.get(prop) | 1 << holder);
        }

        void goHome() {
            for (int prop = 0; prop < script.props; prop++) {
                if (guest.get(prop) == NONE) {
                    lay(prop, script.propHome.get(prop));
                }
            }
        }

        int heldByGuest(int holder) {
            for (int prop = 0; prop < script.props; prop++) {
                if (guest.get(prop) == holder) {
                    return prop;
                }
            }
            return NONE;
        }

        int lyingIn(int place) {
            int set = 0;
            for (int prop = 0; prop < script.props; prop++) {
                if (room.get(prop) == place) {
                    set |= 1 << prop;
                }
            }
            return set;
        }
    }

    /** The GUESTS: where they are, how they go, what they have SEEN and KNOW. */
    private static final class Audience {
        private int count;
        private final Row room = new Row(MAX_GUESTS);
        private final Row habit = new Row(MAX_GUESTS);
        private final Row followed = new Row(MAX_GUESTS);
        private final Row known = new Row(MAX_GUESTS);
        private final Row walks = new Row(MAX_GUESTS);
        private final Row blocked = new Row(MAX_GUESTS);
        private final Grid minutesSeen = new Grid(MAX_GUESTS, MAX_SCENES);
        /** How many GUESTS each ROOM has: asked so often that it is kept, not counted anew. */
        private final Row crowd = new Row(MAX_ROOMS);

        void copyFrom(Audience other) {
            count = other.count;
            room.copyFrom(other.room);
            habit.copyFrom(other.habit);
            followed.copyFrom(other.followed);
            known.copyFrom(other.known);
            walks.copyFrom(other.walks);
            blocked.copyFrom(other.blocked);
            minutesSeen.copyFrom(other.minutesSeen);
            crowd.copyFrom(other.crowd);
        }

        int enter(int place) {
            int guest = count;
            count++;
            room.set(guest, place);
            crowd.add(place, 1);
            changeHabit(guest, STAY, NONE);
            return guest;
        }

        void changeHabit(int guest, int newHabit, int track) {
            habit.set(guest, newHabit);
            followed.set(guest, newHabit == FOLLOW ? track : NONE);
        }

        void walk(int guest, int to) {
            crowd.add(room.get(guest), -1);
            crowd.add(to, 1);
            room.set(guest, to);
            walks.add(guest, 1);
        }

        boolean knows(int guest, int scene) {
            return (known.get(guest) & 1 << scene) != 0;
        }

        void see(int guest, int scene, int minutesToKnow) {
            int minutes = minutesSeen.get(guest, scene) + 1;
            minutesSeen.set(guest, scene, minutes);
            if (minutes >= minutesToKnow) {
                known.set(guest, known.get(guest) | 1 << scene);
            }
        }

        int countKnownBy(int guest) {
            return Integer.bitCount(known.get(guest));
        }

        int countKnowing(int scene) {
            int knowing = 0;
            for (int guest = 0; guest < count; guest++) {
                if (knows(guest, scene)) {
                    knowing++;
                }
            }
            return knowing;
        }

        int countKnown() {
            int sum = 0;
            for (int guest = 0; guest < count; guest++) {
                sum += countKnownBy(guest);
            }
            return sum;
        }

        int knownByAny() {
            int set = 0;
            for (int guest = 0; guest < count; guest++) {
                set |= known.get(guest);
            }
            return set;
        }
    }

    /** All that changes with time, and how a minute changes it. */
    private static final class Evening {
        private final House house;
        private final Script script;
        private final Cast cast;
        private final Stage stage;
        private final Props props;
        private final Audience audience;
        /** How many GUESTS went through each DOOR in this minute. */
        private final Row passages = new Row(MAX_DOORS);
        private int now;

        Evening(House house, Script script) {
            this.house = house;
            this.script = script;
            cast = new Cast(script);
            stage = new Stage(script);
            props = new Props(script);
            audience = new Audience();
        }

        void copyFrom(Evening other) {
            now = other.now;
            cast.copyFrom(other.cast);
            stage.copyFrom(other.stage);
            props.copyFrom(other.props);
            audience.copyFrom(other.audience);
        }

        void run(int minutes) {
            for (int minute = 0; minute < minutes; minute++) {
                now++;
                if (now % LOOP_MINUTES == 0) {
                    beginLoop();
                }
                moveTracks();
                performScenes();
                moveGuests();
                showScenes();
            }
        }

        private void beginLoop() {
            stage.restart();
            props.goHome();
            audience.minutesSeen.fill(0);
        }

        private void moveTracks() {
            int busy = stage.busyTracks();
            for (int track = 0; track < script.tracks; track++) {
                int roles = cast.rolesOf(track);
                if (cast.player.get(track) == NONE && (busy & roles) == 0) {
                    int scene = stage.nextSceneOf(roles);
                    moveTrack(track, scene == NONE ? script.trackHome.get(track) : script.room.get(scene));
                }
            }
        }

        private void moveTrack(int track, int goal) {
            int from = cast.room.get(track);
            int to = house.nextOnWay.get(from, goal);
            if (to != NONE && to != from) {
                cast.walk(track, to);
            }
        }

        private void performScenes() {
            int minute = now % LOOP_MINUTES;
            for (int scene = 0; scene < script.scenes; scene++) {
                if (stage.runs(scene)) {
                    continueScene(scene);
                } else if (stage.waits(scene) && script.start.get(scene) <= minute) {
                    if (canBegin(scene)) {
                        stage.begin(scene);
                    } else {
                        stage.delay(scene);
                    }
                }
            }
        }

        private void continueScene(int scene) {
            stage.goOn(scene);
            int prop = script.prop.get(scene);
            if (prop != NONE && !stage.runs(scene)) {
                props.giveToTrack(prop, greatestTrack(script.roles.get(scene)));
            }
        }

        private int greatestTrack(int set) {
            int greatest = NONE;
            for (int track = 0; track < script.tracks; track++) {
                if ((set & 1 << track) != 0) {
                    greatest = track;
                }
            }
            return greatest;
        }

        private boolean canBegin(int scene) {
            int roles = script.roles.get(scene);
            boolean allThere = (roles & ~cast.setIn(script.room.get(scene))) == 0;
            return allThere && (cast.withDoubles(roles) & stage.busyTracks()) == 0 && hasProp(scene);
        }

        private boolean hasProp(int scene) {
            int prop = script.prop.get(scene);
            if (prop == NONE || props.room.get(prop) == script.room.get(scene)) {
                return true;
            }
            int holder = props.track.get(prop);
            return holder != NONE && script.has(scene, 1 << holder);
        }

        private void moveGuests() {
            passages.fill(0);
            for (int guest = 0; guest < audience.count; guest++) {
                int from = audience.room.get(guest);
                int to = nextRoomOf(guest, from);
                if (to != NONE && to != from) {
                    moveGuest(guest, to, house.doorBetween.get(from, to));
                }
            }
        }

        private void moveGuest(int guest, int to, int door) {
            if (passages.get(door) < house.width.get(door) && !isFull(to)) {
                passages.add(door, 1);
                audience.walk(guest, to);
            } else {
                audience.blocked.add(guest, 1);
            }
        }

        boolean isFull(int room) {
            return audience.crowd.get(room) >= house.capacity.get(room);
        }

        /** NONE or the GUEST's own ROOM, if it stays. */
        private int nextRoomOf(int guest, int from) {
            switch (audience.habit.get(guest)) {
                case FOLLOW: return house.nextOnWay.get(from, cast.room.get(audience.followed.get(guest)));
                case WANDER: return emptierRoom(from);
                case SEEK: return nextRoomToScene(guest, from);
                default: return from;
            }
        }

        private int emptierRoom(int from) {
            if (stage.runningIn(from) != 0) {
                return from;
            }
            int best = from;
            for (int room = 0; room < house.rooms; room++) {
                if (house.doorBetween.get(from, room) != NONE
                        && audience.crowd.get(room) < audience.crowd.get(best)) {
                    best = room;
                }
            }
            return best;
        }

        private int nextRoomToScene(int guest, int from) {
            int goal = from;
            int fewest = NONE;
            for (int scene = 0; scene < script.scenes; scene++) {
                int room = script.room.get(scene);
                int doors = house.doorsOnWay.get(from, room);
                if (stage.runs(scene) && !audience.knows(guest, scene) && doors != NONE
                        && (fewest == NONE || doors < fewest)) {
                    goal = room;
                    fewest = doors;
                }
            }
            return house.nextOnWay.get(from, goal);
        }

        private void showScenes() {
            for (int scene = 0; scene < script.scenes; scene++) {
                if (stage.runs(scene)) {
                    showScene(scene);
                }
            }
        }

        private void showScene(int scene) {
            int room = script.room.get(scene);
            int places = (house.capacity.get(room) + 1) / 2;
            int minutesToKnow = (script.length.get(scene) + 1) / 2;
            for (int guest = 0; guest < audience.count && places > 0; guest++) {
                if (audience.room.get(guest) == room) {
                    audience.see(guest, scene, minutesToKnow);
                    places--;
                }
            }
        }

        int roomOfProp(int prop) {
            if (props.track.get(prop) != NONE) {
                return cast.room.get(props.track.get(prop));
            }
            if (props.guest.get(prop) != NONE) {
                return audience.room.get(props.guest.get(prop));
            }
            return props.room.get(prop);
        }

        boolean canTake(int guest, int prop) {
            int room = audience.room.get(guest);
            return props.room.get(prop) == room && props.heldByGuest(guest) == NONE && !isInUse(prop, room);
        }

        private boolean isInUse(int prop, int room) {
            for (int scene = 0; scene < script.scenes; scene++) {
                if (stage.runs(scene) && script.room.get(scene) == room && script.prop.get(scene) == prop) {
                    return true;
                }
            }
            return false;
        }

        boolean canDouble(int track, int by) {
            boolean bothFree = (stage.busyTracks() & (1 << track | 1 << by)) == 0;
            return bothFree && cast.isSingle(track) && cast.isSingle(by) && !script.overlap(track, by);
        }
    }
}
