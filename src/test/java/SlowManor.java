import java.util.ArrayDeque;
import java.util.ArrayList;
import java.util.HashMap;
import java.util.HashSet;
import java.util.List;
import java.util.Map;
import java.util.Set;
import java.util.TreeSet;
import java.util.function.Consumer;

/**
 * The document read a second time, without regard to speed: objects and sets instead of rows and bits, and what
 * would be is found by doing all that was done once more on a new object.
 */
final class SlowManor {
    enum State { WAITS, RUNS, DONE, CUT }

    static final class Room {
        int number;
        int capacity;
    }

    static final class Door {
        Room one;
        Room other;
        int width;
        int used;

        boolean joins(Room a, Room b) {
            return one == a && other == b || one == b && other == a;
        }
    }

    static final class Track {
        int number;
        Room home;
        Room room;
        Track by;
        int doors;
    }

    static final class Prop {
        int number;
        Room home;
        Room lies;
        Track track;
        Guest guest;
        Set<Guest> readers = new HashSet<>();
    }

    static final class Scene {
        int number;
        Room room;
        int start;
        int length;
        Set<Track> tracks = new HashSet<>();
        Prop prop;
        State state = State.WAITS;
        int left;
        int late;
        int done;
        int cut;

        Set<Integer> minutes() {
            Set<Integer> all = new TreeSet<>();
            for (int minute = start; minute <= start + length - 1; minute++) {
                all.add(minute);
            }
            return all;
        }

        boolean overlaps(Scene other) {
            Set<Integer> common = minutes();
            common.retainAll(other.minutes());
            return !common.isEmpty();
        }
    }

    static final class Guest {
        int number;
        Room room;
        int habit;
        Track followed;
        Set<Scene> known = new HashSet<>();
        Map<Scene, Integer> seen = new HashMap<>();
        int doors;
        int blocked;
    }

    final List<Room> rooms = new ArrayList<>();
    final List<Door> doors = new ArrayList<>();
    final List<Track> tracks = new ArrayList<>();
    final List<Prop> props = new ArrayList<>();
    final List<Scene> scenes = new ArrayList<>();
    final List<Guest> guests = new ArrayList<>();
    final List<Consumer<SlowManor>> past = new ArrayList<>();
    int now = 0;
    int lateEver = 0;

    // ---- what is told

    int room(int capacity) {
        argument(capacity >= 1 && capacity <= 30);
        state(rooms.size() != 8);
        past.add(m -> m.room(capacity));
        Room room = new Room();
        room.number = rooms.size();
        room.capacity = capacity;
        rooms.add(room);
        return room.number;
    }

    int door(int one, int other, int width) {
        Room a = pick(rooms, one);
        Room b = pick(rooms, other);
        argument(one != other && width >= 1 && width <= 6);
        state(doors.size() != 14 && between(a, b) == null);
        past.add(m -> m.door(one, other, width));
        Door door = new Door();
        door.one = a;
        door.other = b;
        door.width = width;
        doors.add(door);
        return doors.size();
    }

    int track(int home) {
        Room room = pick(rooms, home);
        state(tracks.size() != 5);
        past.add(m -> m.track(home));
        Track track = new Track();
        track.number = tracks.size();
        track.home = room;
        track.room = room;
        tracks.add(track);
        return track.number;
    }

    int prop(int home) {
        Room room = pick(rooms, home);
        state(props.size() != 4);
        past.add(m -> m.prop(home));
        Prop prop = new Prop();
        prop.number = props.size();
        prop.home = room;
        prop.lies = room;
        props.add(prop);
        return prop.number;
    }

    int scene(int room, int start, int length, int set, int prop) {
        Scene scene = new Scene();
        scene.room = pick(rooms, room);
        scene.prop = prop == -1 ? null : pick(props, prop);
        argument(start >= 0 && start <= 18 && length >= 1 && length <= 8 && start + length <= 20);
        argument(set != 0);
        for (int bit = 0; bit < 32; bit++) {
            if ((set >> bit & 1) == 1) {
                argument(bit < tracks.size());
                scene.tracks.add(tracks.get(bit));
            }
        }
        scene.number = scenes.size();
        scene.start = start;
        scene.length = length;
        state(now == 0 && scenes.size() != 12);
        for (Scene other : scenes) {
            Set<Track> common = new HashSet<>(scene.tracks);
            common.retainAll(other.tracks);
            state(common.isEmpty() || !scene.overlaps(other));
        }
        for (Track track : tracks) {
            state(track.by == null);
        }
        past.add(m -> m.scene(room, start, length, set, prop));
        scenes.add(scene);
        return scene.number;
    }

    int guest(int room) {
        Room place = pick(rooms, room);
        state(guests.size() != 12 && heads(place) < place.capacity);
        past.add(m -> m.guest(room));
        Guest guest = new Guest();
        guest.number = guests.size();
        guest.room = place;
        guests.add(guest);
        return guest.number;
    }

    int habit(int guest, int habit, int track) {
        Guest who = pick(guests, guest);
        Track whom = habit == 1 ? pick(tracks, track) : null;
        argument(habit >= 0 && habit <= 3);
        past.add(m -> m.habit(guest, habit, track));
        int before = who.habit;
        who.habit = habit;
        who.followed = whom;
        return before;
    }

    // ---- what is done

    int pass(int minutes) {
        argument(minutes >= 1 && minutes <= 60);
        state(now + minutes <= 600);
        past.add(m -> m.minutes(minutes));
        return minutes(minutes);
    }

    int minutes(int count) {
        int before = many(8);
        for (int i = 0; i < count; i++) {
            minute();
        }
        return many(8) - before;
    }

    int take(int guest, int prop) {
        Guest who = pick(guests, guest);
        Prop what = pick(props, prop);
        state(what.lies == who.room);
        for (Prop other : props) {
            state(other.guest != who);
        }
        for (Scene scene : scenes) {
            state(!(scene.state == State.RUNS && scene.room == who.room && scene.prop == what));
        }
        past.add(m -> m.take(guest, prop));
        what.lies = null;
        what.guest = who;
        what.readers.add(who);
        return what.readers.size();
    }

    int leave(int guest) {
        Guest who = pick(guests, guest);
        for (Prop prop : props) {
            if (prop.guest == who) {
                past.add(m -> m.leave(guest));
                prop.guest = null;
                prop.lies = who.room;
                return prop.number;
            }
        }
        throw new IllegalStateException();
    }

    int play(int track, int by) {
        Track one = pick(tracks, track);
        Track other = pick(tracks, by);
        argument(one != other);
        state(doubling(one, other));
        past.add(m -> m.play(track, by));
        one.by = other;
        one.room = other.room;
        int count = 0;
        for (Scene scene : scenes) {
            if (scene.tracks.contains(one) || scene.tracks.contains(other)) {
                count++;
            }
        }
        return count;
    }

    boolean doubling(Track one, Track other) {
        for (Track track : tracks) {
            if (track.by == one || track.by == other) {
                return false;
            }
        }
        if (one.by != null || other.by != null || running(one) != null || running(other) != null) {
            return false;
        }
        for (Scene mine : scenes) {
            if (mine.tracks.contains(one) && mine.tracks.contains(other)) {
                return false;
            }
            for (Scene yours : scenes) {
                if (mine.tracks.contains(one) && yours.tracks.contains(other) && mine.overlaps(yours)) {
                    return false;
                }
            }
        }
        return true;
    }

    int part(int track) {
        Track one = pick(tracks, track);
        state(one.by != null && running(one) == null && running(one.by) == null);
        past.add(m -> m.part(track));
        Track other = one.by;
        one.by = null;
        return other.number;
    }

    // ---- a minute

    void minute() {
        now = now + 1;
        if (now % 20 == 0) {
            newLoop();
        }
        for (Track track : tracks) {
            walk(track);
        }
        for (Scene scene : scenes) {
            perform(scene);
        }
        for (Door door : doors) {
            door.used = 0;
        }
        for (Guest guest : guests) {
            go(guest);
        }
        for (Scene scene : scenes) {
            show(scene);
        }
    }

    void newLoop() {
        for (Scene scene : scenes) {
            if (scene.state == State.WAITS || scene.state == State.RUNS) {
                scene.cut++;
            }
            scene.state = State.WAITS;
            scene.left = 0;
            scene.late = 0;
        }
        for (Prop prop : props) {
            if (prop.guest == null) {
                prop.track = null;
                prop.lies = prop.home;
            }
        }
        for (Guest guest : guests) {
            guest.seen.clear();
        }
    }

    Scene running(Track track) {
        for (Scene scene : scenes) {
            if (scene.state == State.RUNS && scene.tracks.contains(track)) {
                return scene;
            }
        }
        return null;
    }

    List<Track> playedBy(Track track) {
        List<Track> played = new ArrayList<>();
        for (Track other : tracks) {
            if (other.by == track) {
                played.add(other);
            }
        }
        return played;
    }

    void walk(Track track) {
        if (track.by != null || running(track) != null) {
            return;
        }
        for (Track other : playedBy(track)) {
            if (running(other) != null) {
                return;
            }
        }
        Scene next = next(track);
        Room goal = next == null ? track.home : next.room;
        Room step = step(track.room, goal);
        if (step != null && step != track.room) {
            track.room = step;
            track.doors++;
            for (Track other : playedBy(track)) {
                other.room = step;
            }
        }
    }

    Scene next(Track track) {
        Scene best = null;
        for (Scene scene : scenes) {
            boolean has = scene.tracks.contains(track);
            for (Track other : playedBy(track)) {
                has |= scene.tracks.contains(other);
            }
            if (has && scene.state == State.WAITS && (best == null || best.start > scene.start)) {
                best = scene;
            }
        }
        return best;
    }

    void perform(Scene scene) {
        if (scene.state == State.RUNS) {
            scene.left--;
            if (scene.left == 0) {
                scene.state = State.DONE;
                scene.done++;
                if (scene.prop != null) {
                    Track last = null;
                    for (Track track : tracks) {
                        last = scene.tracks.contains(track) ? track : last;
                    }
                    scene.prop.lies = null;
                    scene.prop.guest = null;
                    scene.prop.track = last;
                }
            }
        } else if (scene.state == State.WAITS && scene.start <= now % 20) {
            if (ready(scene)) {
                scene.state = State.RUNS;
                scene.left = scene.length;
            } else {
                scene.late++;
                lateEver++;
                if (scene.late == 5) {
                    scene.state = State.CUT;
                    scene.cut++;
                }
            }
        }
    }

    boolean ready(Scene scene) {
        for (Track track : scene.tracks) {
            if (track.room != scene.room || running(track) != null) {
                return false;
            }
            if (track.by != null && running(track.by) != null) {
                return false;
            }
            for (Track other : playedBy(track)) {
                if (running(other) != null) {
                    return false;
                }
            }
        }
        Prop prop = scene.prop;
        return prop == null || prop.lies == scene.room || prop.track != null && scene.tracks.contains(prop.track);
    }

    void go(Guest guest) {
        Room to = wish(guest);
        if (to == null || to == guest.room) {
            return;
        }
        Door door = between(guest.room, to);
        if (door.used < door.width && heads(to) < to.capacity) {
            door.used++;
            guest.room = to;
            guest.doors++;
        } else {
            guest.blocked++;
        }
    }

    Room wish(Guest guest) {
        if (guest.habit == 1) {
            return step(guest.room, guest.followed.room);
        }
        if (guest.habit == 2) {
            for (Scene scene : scenes) {
                if (scene.state == State.RUNS && scene.room == guest.room) {
                    return null;
                }
            }
            Room best = null;
            for (Room room : neighbours(guest.room)) {
                if (best == null || heads(room) < heads(best)) {
                    best = room;
                }
            }
            return best != null && heads(best) < heads(guest.room) ? best : null;
        }
        if (guest.habit == 3) {
            Scene best = null;
            for (Scene scene : scenes) {
                if (scene.state == State.RUNS && !guest.known.contains(scene)
                        && distance(guest.room, scene.room) >= 0
                        && (best == null || distance(guest.room, scene.room) < distance(guest.room, best.room))) {
                    best = scene;
                }
            }
            return best == null ? null : step(guest.room, best.room);
        }
        return null;
    }

    void show(Scene scene) {
        if (scene.state != State.RUNS) {
            return;
        }
        int half = scene.room.capacity / 2 + scene.room.capacity % 2;
        List<Guest> there = new ArrayList<>();
        for (Guest guest : guests) {
            if (guest.room == scene.room) {
                there.add(guest);
            }
        }
        for (Guest guest : there.subList(0, Math.min(half, there.size()))) {
            guest.seen.merge(scene, 1, Integer::sum);
            if (guest.seen.get(scene) * 2 >= scene.length) {
                guest.known.add(scene);
            }
        }
    }

    // ---- the house

    int heads(Room room) {
        int heads = 0;
        for (Guest guest : guests) {
            heads += guest.room == room ? 1 : 0;
        }
        return heads;
    }

    Door between(Room one, Room other) {
        for (Door door : doors) {
            if (door.joins(one, other)) {
                return door;
            }
        }
        return null;
    }

    List<Room> neighbours(Room room) {
        List<Room> all = new ArrayList<>();
        for (Room other : rooms) {
            if (between(room, other) != null) {
                all.add(other);
            }
        }
        return all;
    }

    int distance(Room from, Room to) {
        Map<Room, Integer> reached = new HashMap<>();
        ArrayDeque<Room> open = new ArrayDeque<>();
        reached.put(from, 0);
        open.add(from);
        while (!open.isEmpty()) {
            Room room = open.remove();
            for (Room other : neighbours(room)) {
                if (!reached.containsKey(other)) {
                    reached.put(other, reached.get(room) + 1);
                    open.add(other);
                }
            }
        }
        return reached.getOrDefault(to, -1);
    }

    Room step(Room from, Room to) {
        if (from == to) {
            return from;
        }
        int far = distance(from, to);
        for (Room room : neighbours(from)) {
            if (far > 0 && distance(room, to) == far - 1) {
                return room;
            }
        }
        return null;
    }

    // ---- what one asks

    int ofRoom(int room, int what) {
        Room place = pick(rooms, room);
        argument(what >= 0 && what <= 4);
        int set = 0;
        if (what == 0) {
            return place.capacity;
        }
        if (what == 1) {
            return heads(place);
        }
        if (what == 2) {
            for (Track track : tracks) {
                set += track.room == place ? 1 << track.number : 0;
            }
        } else if (what == 3) {
            for (Scene scene : scenes) {
                set += scene.room == place && scene.state == State.RUNS ? 1 << scene.number : 0;
            }
        } else {
            for (Prop prop : props) {
                set += prop.lies == place ? 1 << prop.number : 0;
            }
        }
        return set;
    }

    int way(int from, int to, int what) {
        Room one = pick(rooms, from);
        Room other = pick(rooms, to);
        argument(what == 0 || what == 1);
        Room step = step(one, other);
        return what == 0 ? distance(one, other) : step == null ? -1 : step.number;
    }

    int ofTrack(int track, int what) {
        Track one = pick(tracks, track);
        argument(what >= 0 && what <= 4);
        switch (what) {
            case 0: return one.room.number;
            case 1: return running(one) == null ? -1 : running(one).number;
            case 2: return next(one) == null ? -1 : next(one).number;
            case 3: return one.by == null ? -1 : one.by.number;
            default: return one.doors;
        }
    }

    int ofScene(int scene, int what) {
        Scene one = pick(scenes, scene);
        argument(what >= 0 && what <= 10);
        int set = 0;
        for (Track track : one.tracks) {
            set += 1 << track.number;
        }
        int knowing = 0;
        for (Guest guest : guests) {
            knowing += guest.known.contains(one) ? 1 : 0;
        }
        int left = one.state == State.RUNS ? one.left : 0;
        int prop = one.prop == null ? -1 : one.prop.number;
        int[] all = {one.room.number, one.start, one.length, set, prop, one.state.ordinal(), left, one.late,
            one.done, one.cut, knowing};
        return all[what];
    }

    int ofGuest(int guest, int what) {
        Guest one = pick(guests, guest);
        argument(what >= 0 && what <= 6);
        int held = -1;
        for (Prop prop : props) {
            held = prop.guest == one ? prop.number : held;
        }
        int known = 0;
        for (Scene scene : one.known) {
            known += 1 << scene.number;
        }
        int followed = one.followed == null ? -1 : one.followed.number;
        int[] all = {one.room.number, one.habit, followed, held, known, one.doors, one.blocked};
        return all[what];
    }

    int ofProp(int prop, int what) {
        Prop one = pick(props, prop);
        argument(what >= 0 && what <= 4);
        Room place = one.lies != null ? one.lies : one.track != null ? one.track.room : one.guest.room;
        int readers = 0;
        for (Guest guest : one.readers) {
            readers += 1 << guest.number;
        }
        int track = one.track == null ? -1 : one.track.number;
        int guest = one.guest == null ? -1 : one.guest.number;
        int[] all = {one.home.number, place.number, track, guest, readers};
        return all[what];
    }

    int seen(int guest, int scene) {
        Guest one = pick(guests, guest);
        Scene other = pick(scenes, scene);
        return one.seen.getOrDefault(other, 0);
    }

    int many(int what) {
        argument(what >= 0 && what <= 12);
        int running = 0;
        int done = 0;
        int cut = 0;
        Set<Scene> unknown = new HashSet<>(scenes);
        int blocked = 0;
        for (Scene scene : scenes) {
            running += scene.state == State.RUNS ? 1 : 0;
            done += scene.done;
            cut += scene.cut;
        }
        for (Guest guest : guests) {
            unknown.removeAll(guest.known);
            blocked += guest.blocked;
        }
        int[] all = {now, rooms.size(), doors.size(), tracks.size(), scenes.size(), props.size(), guests.size(),
            running, done, cut, lateEver, unknown.size(), blocked};
        return all[what];
    }

    double meanKnown() {
        double sum = 0;
        for (Guest guest : guests) {
            sum += guest.known.size();
        }
        return guests.isEmpty() ? 0 : sum / guests.size();
    }

    // ---- what would be

    SlowManor again() {
        SlowManor other = new SlowManor();
        for (Consumer<SlowManor> step : new ArrayList<>(past)) {
            step.accept(other);
        }
        return other;
    }

    int wouldKnow(int guest, int minutes) {
        pick(guests, guest);
        argument(minutes >= 1 && minutes <= 40);
        SlowManor other = again();
        other.minutes(minutes);
        return other.guests.get(guest).known.size();
    }

    int bestHabit(int guest, int minutes) {
        pick(guests, guest);
        argument(minutes >= 1 && minutes <= 40);
        List<int[]> choices = new ArrayList<>(List.of(new int[] {0, 0, 0}, new int[] {2, 2, 0}, new int[] {3, 3, 0}));
        for (Track track : tracks) {
            choices.add(new int[] {10 + track.number, 1, track.number});
        }
        int best = -1;
        int most = -1;
        for (int[] choice : choices) {
            SlowManor other = again();
            other.habit(guest, choice[1], choice[2]);
            other.minutes(minutes);
            if (other.guests.get(guest).known.size() > most) {
                most = other.guests.get(guest).known.size();
                best = choice[0];
            }
        }
        return best;
    }

    int wouldCut(int minutes) {
        argument(minutes >= 1 && minutes <= 40);
        SlowManor other = again();
        other.minutes(minutes);
        return other.many(9) - many(9);
    }

    int doubles(int track) {
        Track one = pick(tracks, track);
        int set = 0;
        for (Track other : tracks) {
            set += other != one && doubling(one, other) ? 1 << other.number : 0;
        }
        return set;
    }

    long digest() {
        List<Integer> values = new ArrayList<>();
        addAll(values, 12, this::many);
        for (Room room : rooms) {
            addAll(values, 4, what -> ofRoom(room.number, what));
            addAll(values, 1, what -> way(room.number, 0, what));
        }
        for (Track track : tracks) {
            addAll(values, 4, what -> ofTrack(track.number, what));
            values.add(doubles(track.number));
        }
        for (Scene scene : scenes) {
            addAll(values, 10, what -> ofScene(scene.number, what));
        }
        for (Prop prop : props) {
            addAll(values, 4, what -> ofProp(prop.number, what));
        }
        SlowManor later = again();
        later.minutes(5);
        for (Guest guest : guests) {
            addAll(values, 6, what -> ofGuest(guest.number, what));
            values.add(later.guests.get(guest.number).known.size());
            if (!scenes.isEmpty()) {
                values.add(seen(guest.number, 0));
            }
        }
        values.add(wouldCut(9));
        long d = 9103;
        for (int v : values) {
            d = d * 31 + v;
        }
        return d;
    }

    private static void addAll(List<Integer> values, int last, java.util.function.IntUnaryOperator ask) {
        for (int what = 0; what <= last; what++) {
            values.add(ask.applyAsInt(what));
        }
    }

    // ---- wrong inputs

    private static <T> T pick(List<T> list, int index) {
        if (index < 0 || index >= list.size()) {
            throw new IndexOutOfBoundsException();
        }
        return list.get(index);
    }

    private static void argument(boolean holds) {
        if (!holds) {
            throw new IllegalArgumentException();
        }
    }

    private static void state(boolean holds) {
        if (!holds) {
            throw new IllegalStateException();
        }
    }
}
