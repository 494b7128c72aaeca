import java.util.function.IntUnaryOperator;
import java.util.function.Supplier;

/** All that one may ask, as a text; in parts, each on an object of its own, as one is used for 512 calls at most. */
final class Answers {
    private static final int PARTS = 5;

    private final ManorLoops m;
    private final StringBuilder text;

    private Answers(ManorLoops manor, StringBuilder text) {
        m = manor;
        this.text = text;
    }

    static String of(Supplier<ManorLoops> maker) {
        StringBuilder text = new StringBuilder();
        for (int part = 0; part < PARTS; part++) {
            new Answers(maker.get(), text).ask(part);
        }
        return text.toString();
    }

    private void ask(int part) {
        switch (part) {
            case 0: house(); break;
            case 1: ways(); break;
            case 2: play(); break;
            case 3: guests(); break;
            default: outlooks(); break;
        }
    }

    private void house() {
        each("many", 12, m::many);
        text.append("meanKnown ").append(m.meanKnown()).append('\n');
        for (int room = 0; room < m.many(1); room++) {
            int one = room;
            each("ofRoom " + room, 4, what -> m.ofRoom(one, what));
        }
    }

    private void ways() {
        int rooms = m.many(1);
        for (int from = 0; from < rooms; from++) {
            int one = from;
            each("way 0 from " + from, rooms - 1, to -> m.way(one, to, 0));
            each("way 1 from " + from, rooms - 1, to -> m.way(one, to, 1));
        }
    }

    private void play() {
        for (int track = 0; track < m.many(3); track++) {
            int one = track;
            each("ofTrack " + track, 4, what -> m.ofTrack(one, what));
            text.append("doubles ").append(m.doubles(track)).append('\n');
        }
        for (int scene = 0; scene < m.many(4); scene++) {
            int one = scene;
            each("ofScene " + scene, 10, what -> m.ofScene(one, what));
        }
        for (int prop = 0; prop < m.many(5); prop++) {
            int one = prop;
            each("ofProp " + prop, 4, what -> m.ofProp(one, what));
        }
    }

    private void guests() {
        int scenes = m.many(4);
        for (int guest = 0; guest < m.many(6); guest++) {
            int one = guest;
            each("ofGuest " + guest, 6, what -> m.ofGuest(one, what));
            each("seen " + guest, scenes - 1, scene -> m.seen(one, scene));
        }
    }

    private void outlooks() {
        int guests = m.many(6);
        each("wouldKnow", guests - 1, guest -> m.wouldKnow(guest, 40));
        each("bestHabit", guests - 1, guest -> m.bestHabit(guest, 15));
        each("wouldCut", 2, times -> m.wouldCut(10 + 15 * times));
        text.append("digest ").append(m.digest()).append('\n');
    }

    private void each(String what, int last, IntUnaryOperator call) {
        text.append(what);
        for (int number = 0; number <= last; number++) {
            text.append(' ').append(call.applyAsInt(number));
        }
        text.append('\n');
    }
}
