/** Objects for the tests to begin with. */
final class Houses {
    private Houses() {
    }

    /** Rooms of one capacity, without doors. */
    static ManorLoops rooms(int count, int capacity) {
        ManorLoops m = new ManorLoops();
        for (int room = 0; room < count; room++) {
            m.room(capacity);
        }
        return m;
    }

    /** Rooms in a line, each with a wide door to the next one. */
    static ManorLoops line(int count, int capacity) {
        ManorLoops m = rooms(count, capacity);
        for (int room = 1; room < count; room++) {
            m.door(room - 1, room, 6);
        }
        return m;
    }

    /** One of each but doors, all in one room. */
    static ManorLoops single() {
        ManorLoops m = new ManorLoops();
        m.room(3);
        m.track(0);
        m.prop(0);
        m.scene(0, 4, 3, 1, 0);
        m.guest(0);
        return m;
    }

    /** Four rooms in a ring with narrow doors, three tracks, two props, four scenes, a guest of each habit. */
    static ManorLoops middling() {
        ManorLoops m = new ManorLoops();
        int[] capacities = {4, 3, 2, 5};
        for (int capacity : capacities) {
            m.room(capacity);
        }
        m.door(0, 1, 1);
        m.door(1, 2, 2);
        m.door(2, 3, 1);
        m.door(3, 0, 3);
        m.track(0);
        m.track(2);
        m.track(3);
        m.prop(0);
        m.prop(2);
        m.scene(1, 2, 3, 1, -1);
        m.scene(2, 3, 4, 2, 1);
        m.scene(3, 6, 2, 5, -1);
        m.scene(0, 10, 4, 2, 0);
        m.guest(0);
        m.guest(0);
        m.guest(0);
        m.guest(3);
        m.habit(1, 1, 0);
        m.habit(2, 2, 0);
        m.habit(3, 3, 0);
        return m;
    }

    /** All that may be told but doors and scenes, in one room: five tracks, four props, twelve guests. */
    static ManorLoops crowd() {
        ManorLoops m = cast(30);
        for (int guest = 0; guest < 12; guest++) {
            m.guest(0);
        }
        return m;
    }

    /** Five tracks and four props in one room. */
    static ManorLoops cast(int capacity) {
        ManorLoops m = rooms(1, capacity);
        for (int track = 0; track < 5; track++) {
            m.track(0);
        }
        for (int prop = 0; prop < 4; prop++) {
            m.prop(0);
        }
        return m;
    }

    /** As many as there may be of all: 8 rooms, 14 doors, 5 tracks, 4 props, 12 scenes, 12 guests. */
    static ManorLoops full() {
        ManorLoops m = manyRooms();
        int[] homes = {0, 2, 4, 6, 7};
        for (int home : homes) {
            m.track(home);
        }
        int[] places = {0, 0, 3, 7};
        for (int place : places) {
            m.prop(place);
        }
        int[][] scenes = {
            {1, 0, 3, 1, -1}, {2, 1, 4, 2, 0}, {3, 2, 2, 12, 2}, {4, 3, 5, 16, -1}, {0, 5, 4, 3, 1}, {5, 6, 2, 4, -1},
            {6, 7, 3, 8, -1}, {7, 9, 2, 16, 3}, {2, 11, 4, 1, -1}, {0, 12, 6, 6, 0}, {3, 13, 7, 8, -1}, {1, 18, 2, 17, -1}
        };
        for (int[] scene : scenes) {
            m.scene(scene[0], scene[1], scene[2], scene[3], scene[4]);
        }
        int[] in = {0, 0, 0, 0, 0, 1, 1, 2, 3, 4, 5, 7};
        for (int guest = 0; guest < in.length; guest++) {
            m.guest(in[guest]);
            m.habit(guest, guest % 4, guest % 5);
        }
        return m;
    }

    /** Eight rooms in a ring, with six doors across. */
    private static ManorLoops manyRooms() {
        ManorLoops m = new ManorLoops();
        int[] capacities = {30, 6, 5, 4, 3, 2, 2, 1};
        for (int capacity : capacities) {
            m.room(capacity);
        }
        for (int room = 0; room < 8; room++) {
            m.door(room, (room + 1) % 8, 1 + room % 6);
        }
        int[][] across = {{0, 4, 1}, {1, 5, 2}, {2, 6, 3}, {3, 7, 4}, {0, 2, 5}, {0, 5, 6}};
        for (int[] door : across) {
            m.door(door[0], door[1], door[2]);
        }
        return m;
    }
}
