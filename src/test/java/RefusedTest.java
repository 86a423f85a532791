import java.util.ArrayList;
import java.util.List;
import java.util.NoSuchElementException;

/**
 * "What is refused answers as told and changes nothing": of two objects that were made alike one
 * gets a refused call; then all that can be asked of both, and all that can be done with both,
 * has to be the same.
 */
public final class RefusedTest {
    private static final int NONE = FlowerPots.NONE;
    private static final int HIDDEN = FlowerPots.HIDDEN;
    private static final int THROWN = 77;
    private static final int[] FAR_OFF = {Integer.MIN_VALUE, -1000001, 100000, Integer.MAX_VALUE};

    private interface Made {
        FlowerPots made();
    }

    private interface Call {
        long on(FlowerPots x);
    }

    private static final List<Call> CALLS = new ArrayList<>();
    private static final List<Long> ANSWERS = new ArrayList<>();
    private static final List<String> NAMES = new ArrayList<>();

    private RefusedTest() {
    }

    public static void main(String[] args) {
        textsRefused();
        numbersRefused();
        check("a new object", FlowerPots::new);
        check("texts without a sill", () -> texts(new FlowerPots()));
        noSillRefused();
        check("a new object, no sill", FlowerPots::new);
        check("texts, no sill", () -> texts(new FlowerPots()));
        CALLS.clear();
        ANSWERS.clear();
        NAMES.clear();
        textsRefused();
        numbersRefused();
        check("a new sill", () -> Checks.made("n3r1w1d2"));
        check("a sill with books", RefusedTest::rich);
        fullRefused();
        int[] wants = {3, 1, 1, 2, 0, 60, 102, 3, 4, 4, 120, 60, 12, 12};
        for (int what = 0; what < wants.length; what++) {
            Checks.due("full: count(" + what + ")", full().count(what), wants[what]);
        }
        check("all that is kept is full", RefusedTest::full);
        Checks.end("RefusedTest");
    }

    private static void refused(String name, long answer, Call call) {
        NAMES.add(name);
        ANSWERS.add(answer);
        CALLS.add(call);
    }

    // ---------------------------------------------------------------- what is refused

    private static void textsRefused() {
        for (int far : new int[] {Integer.MIN_VALUE, -1, 121, Integer.MAX_VALUE}) {
            refused("end(" + far + ")", 0, x -> x.end(far) ? 1 : 0);
        }
        for (int sort : new int[] {Integer.MIN_VALUE, -1, 4, Integer.MAX_VALUE}) {
            refused("fault(" + sort + ")", -2, x -> x.fault(sort));
            refused("text(" + sort + ")", NONE, x -> x.text(sort));
        }
    }

    private static int thrown(FlowerPots x, int place) {
        try {
            return x.at(place);
        } catch (NoSuchElementException e) {
            return THROWN;
        }
    }

    /** Numbers that are out of bounds for any sill of three places, and without one. */
    private static void numbersRefused() {
        List<Integer> far = new ArrayList<>(List.of(-2, 8));
        for (int one : FAR_OFF) {
            far.add(one);
        }
        for (int k : far) {
            refused("at(" + k + ")", THROWN, x -> thrown(x, k));
            refused("lightAt(" + k + ", 1)", HIDDEN, x -> x.lightAt(k, 1));
            refused("lightAt(0, " + k + ")", HIDDEN, x -> x.lightAt(0, k));
            refused("light(" + k + ")", 0, x -> x.light(k) ? 1 : 0);
            refused("put(" + k + ", 1)", NONE, x -> x.put(k, 1));
            refused("put(2, " + k + ")", NONE, x -> x.put(2, k));
            refused("take(" + k + ")", NONE, x -> x.take(k));
            refused("move(" + k + ", 2)", NONE, x -> x.move(k, 2));
            refused("move(0, " + k + ")", NONE, x -> x.move(0, k));
            refused("evening(" + k + ")", HIDDEN, x -> x.evening(k));
            refused("says(" + k + ", 0)", HIDDEN, x -> x.says(k, 0));
            refused("says(0, " + k + ")", HIDDEN, x -> x.says(0, k));
            refused("between(0, " + k + ")", NONE, x -> x.between(0, k));
            refused("between(" + k + ", 0)", NONE, x -> x.between(k, 0));
            refused("nearest(" + k + ", 0, true, 0)", NONE, x -> x.nearest(k, 0, true, 0));
            refused("nearest(0, " + k + ", false, 0)", NONE, x -> x.nearest(0, k, false, 0));
            refused("nearest(0, 0, true, " + k + ")", NONE, x -> x.nearest(0, 0, true, k));
            refused("sayable(" + k + ")", NONE, x -> x.sayable(k));
            refused("word(" + k + ", 0, 0)", NONE, x -> x.word(k, 0, 0));
            refused("word(0, " + k + ", 0)", NONE, x -> x.word(0, k, 0));
            refused("word(0, 0, " + k + ")", NONE, x -> x.word(0, 0, k));
            refused("soonest(" + k + ", 0)", NONE, x -> x.soonest(k, 0));
            refused("soonest(0, " + k + ")", NONE, x -> x.soonest(0, k));
            refused("aunt(" + k + ", 0, 0)", HIDDEN, x -> x.aunt(k, 0, 0));
            refused("aunt(0, " + k + ", 0)", HIDDEN, x -> x.aunt(0, k, 0));
            refused("aunt(0, 0, " + k + ")", HIDDEN, x -> x.aunt(0, 0, k));
            refused("safe(" + k + ", 0, NONE)", NONE, x -> x.safe(k, 0, NONE));
            refused("safe(0, " + k + ", NONE)", NONE, x -> x.safe(0, k, NONE));
            refused("safe(0, 0, " + k + ")", NONE, x -> x.safe(0, 0, k));
        }
        moreNumbersRefused(far);
    }

    private static void moreNumbersRefused(List<Integer> far) {
        for (int k : far) {
            refused("gap(" + k + ")", NONE, x -> x.gap(k));
            refused("read(" + k + ", 0)", HIDDEN, x -> x.read(k, 0));
            refused("read(0, " + k + ")", HIDDEN, x -> x.read(0, k));
            refused("both(" + k + ", 0, 0, 0, 0)", NONE, x -> x.both(k, 0, 0, 0, 0));
            refused("both(0, " + k + ", 0, 0, 0)", NONE, x -> x.both(0, k, 0, 0, 0));
            refused("both(0, 0, " + k + ", 0, 0)", NONE, x -> x.both(0, 0, k, 0, 0));
            refused("both(0, 0, 0, " + k + ", 0)", NONE, x -> x.both(0, 0, 0, k, 0));
            refused("both(0, 0, 0, 0, " + k + ")", NONE, x -> x.both(0, 0, 0, 0, k));
            refused("see(" + k + ", 0, 0)", NONE, x -> x.see(k, 0, 0));
            refused("see(1, " + k + ", 0)", NONE, x -> x.see(1, k, 0));
            refused("see(1, 0, " + k + ")", NONE, x -> x.see(1, 0, k));
            refused("ways(" + k + ")", NONE, x -> x.ways(k));
            refused("likely(" + k + ", 1, 1, 0)", NONE, x -> x.likely(k, 1, 1, 0));
            refused("likely(0, " + k + ", 1, 0)", NONE, x -> x.likely(0, k, 1, 0));
            refused("likely(0, 6, " + k + ", 0)", NONE, x -> x.likely(0, 6, k, 0));
            refused("likely(0, 6, 6, " + k + ")", NONE, x -> x.likely(0, 6, 6, k));
            refused("tell(" + k + ", 0)", NONE, x -> x.tell(k, 0));
            refused("tell(0, " + k + ")", NONE, x -> x.tell(0, k));
            refused("frost(" + k + ")", NONE, x -> x.frost(k));
            refused("drawn(" + (k == 8 ? 21 : k) + ", 5)", NONE, x -> x.drawn(k == 8 ? 21 : k, 5));
            refused("diary(" + (k == 8 ? 60 : k) + ")", NONE, x -> x.diary(k == 8 ? 60 : k));
            refused("count(" + (k == 8 ? 14 : k) + ")", HIDDEN, x -> x.count(k == 8 ? 14 : k));
        }
        refused("take(1)", NONE, x -> x.take(1));
        refused("move(1, 2)", NONE, x -> x.move(1, 2));
        refused("move(1, 1)", NONE, x -> x.move(1, 1));
        refused("put(2, 0)", NONE, x -> x.put(2, 0));
        refused("put(2, 3)", NONE, x -> x.put(2, 3));
        refused("put(3, 1)", NONE, x -> x.put(3, 1));
        refused("see(0, 0, 0)", NONE, x -> x.see(0, 0, 0));
        refused("see(7, 0, 0)", NONE, x -> x.see(7, 0, 0));
        refused("see(1, 3, 0)", NONE, x -> x.see(1, 3, 0));
        refused("see(1, 0, 3)", NONE, x -> x.see(1, 0, 3));
        refused("tell(3, 0)", NONE, x -> x.tell(3, 0));
        refused("tell(1000, 0)", NONE, x -> x.tell(1000, 0));
        refused("tell(0, NONE)", NONE, x -> x.tell(0, NONE));
        refused("drawn(0, 5)", NONE, x -> x.drawn(0, 5));
        refused("frost(0)", NONE, x -> x.frost(0));
        refused("frost(3)", NONE, x -> x.frost(3));
        refused("evening(3)", HIDDEN, x -> x.evening(3));
        refused("evening(NONE)", HIDDEN, x -> x.evening(NONE));
    }

    private static void noSillRefused() {
        refused("at(0)", THROWN, x -> thrown(x, 0));
        refused("light(NONE)", 0, x -> x.light(NONE) ? 1 : 0);
        refused("light(0)", 0, x -> x.light(0) ? 1 : 0);
        refused("put(0, 1)", NONE, x -> x.put(0, 1));
        refused("take(0)", NONE, x -> x.take(0));
        refused("move(0, 1)", NONE, x -> x.move(0, 1));
        refused("evening(0)", HIDDEN, x -> x.evening(0));
        refused("undo()", NONE, FlowerPots::undo);
        refused("see(1, 0, 0)", NONE, x -> x.see(1, 0, 0));
        refused("tell(0, 0)", NONE, x -> x.tell(0, 0));
        refused("frost(1)", NONE, x -> x.frost(1));
        refused("drawn(1, 5)", NONE, x -> x.drawn(1, 5));
        refused("image()", NONE, FlowerPots::image);
        refused("back()", NONE, FlowerPots::back);
        refused("ways(1)", NONE, x -> x.ways(1));
        refused("agree()", NONE, FlowerPots::agree);
        refused("apart()", NONE, FlowerPots::apart);
    }

    private static void fullRefused() {
        refused("feed one", NONE, x -> x.feed(0, 0, 0, 0, 'a'));
        refused("feed twenty", NONE, x -> x.feed(-1, -1, -1, -1, -1));
        for (int sort = 0; sort <= 3; sort++) {
            int one = sort;
            refused("text(" + sort + ")", NONE, x -> x.text(one));
        }
        refused("put(1, 1)", NONE, x -> x.put(1, 1));
        refused("put(1, 2)", NONE, x -> x.put(1, 2));
        refused("put(0, 2)", NONE, x -> x.put(0, 2));
        refused("take(0)", NONE, x -> x.take(0));
        refused("move(0, 1)", NONE, x -> x.move(0, 1));
        for (int book = 0; book < 3; book++) {
            int one = book;
            refused("evening(" + book + ")", HIDDEN, x -> x.evening(one));
        }
        refused("see(1, 0, 0)", NONE, x -> x.see(1, 0, 0));
        refused("see(2, 2, 2)", NONE, x -> x.see(2, 2, 2));
        refused("tell(100, 3)", NONE, x -> x.tell(100, 3));
        refused("frost(1)", NONE, x -> x.frost(1));
        refused("frost(2)", NONE, x -> x.frost(2));
        refused("drawn(1, 5)", NONE, x -> x.drawn(1, 5));
        refused("drawn(20, 5)", NONE, x -> x.drawn(20, 5));
        refused("light(4)", 0, x -> x.light(4) ? 1 : 0);
        refused("between(110, 0)", NONE, x -> x.between(110, 0));
        refused("read(0, 220)", HIDDEN, x -> x.read(0, 220));
    }

    // ---------------------------------------------------------------- objects made alike

    private static FlowerPots texts(FlowerPots x) {
        Checks.text(x, 1, "a=r..;b=.w?;c=w?r");
        Checks.text(x, 2, "ab");
        Checks.text(x, 3, "y:p-s");
        Checks.write(x, "abc");
        return x;
    }

    /** A pot out, one left to move, a day gone by, some of all there is. */
    private static FlowerPots rich() {
        FlowerPots x = texts(Checks.made("n3r2w1d3"));
        Checks.text(x, 1, "b=r??;a=.w.");
        Checks.text(x, 3, "y:d*10+p");
        x.light(1);
        x.see(2, 0, 1);
        x.tell(100, 0);
        x.tell(20, 1);
        x.put(2, 2);
        x.evening(0);
        x.image();
        x.put(0, 1);
        x.move(2, 1);
        x.move(1, 2);
        x.undo();
        x.undo();
        Checks.write(x, "n3r1");
        return x;
    }

    /** Nothing has room: the tape, books, words, lights, acts, seen, told, evenings, moves, pots. */
    private static FlowerPots full() {
        FlowerPots x = Checks.made("n3r1w1d2", "a=r..;b=.w?;c=w?r", "a=???", "c=??.;d=..w");
        String[] words = {"ab", "a", "bb", "ca"};
        String[] lights = {"y:p-s", "y:p", "y:0-p", "y:d"};
        for (int i = 0; i < 4; i++) {
            Checks.text(x, 2, words[i]);
            Checks.text(x, 3, lights[i]);
        }
        x.light(2);
        for (int i = 0; i < 12; i++) {
            x.see(i % 6 + 1, i % 3, i % 2);
            x.tell(i % 2 == 0 ? 100 : 20, i % 2);
        }
        x.drawn(10, 4);
        x.image();
        for (int place = 0; place < 3; place++) {
            x.take(place);
        }
        for (int day = 10; day < 60; day++) {
            if (day > 40 && day <= 50) {
                x.put(1, 1);
                x.take(1);
            }
            x.evening(0);
        }
        x.put(0, 1);
        x.put(2, 2);
        Checks.write(x, "a".repeat(120));
        return x;
    }

    // ---------------------------------------------------------------- comparing

    private static void check(String name, Made made) {
        String plain = toldOf(made.made());
        Checks.due(name + ": a second one alike", toldOf(made.made()).equals(plain), true);
        for (int i = 0; i < CALLS.size(); i++) {
            FlowerPots x = made.made();
            String call = name + ": " + NAMES.get(i);
            Checks.due(call, CALLS.get(i).on(x), ANSWERS.get(i));
            String told = toldOf(x);
            if (!told.equals(plain)) {
                Checks.due(call + " changed " + plain + " to " + told, false, true);
            }
        }
    }

    /** All that the object tells, then what it tells when it is used on. */
    private static String toldOf(FlowerPots x) {
        StringBuilder all = new StringBuilder();
        counts(all, x);
        for (int sort = 0; sort <= 3; sort++) {
            all.append(' ').append(x.fault(sort));
        }
        for (int day = 0; day <= x.count(5); day += 7) {
            all.append(' ').append(x.diary(day));
        }
        all.append(" diary ").append(x.diary(x.count(5) - 1));
        for (int place = 0; place < 3; place++) {
            all.append(" at ").append(thrown(x, place)).append(' ').append(x.lightAt(place, 1));
        }
        for (int book = 0; book < 2; book++) {
            all.append(" book ").append(x.says(book, 100)).append(' ').append(x.sayable(book));
            all.append(' ').append(x.nearest(book, 0, true, 1)).append(' ').append(x.aunt(book, 0, 1));
            all.append(' ').append(x.word(book, 0, 0)).append(' ').append(x.soonest(book, 0));
            all.append(' ').append(x.gap(book)).append(' ').append(x.read(book, 2));
            all.append(' ').append(x.likely(book, 3, 2, 0));
        }
        all.append(" ways ").append(x.ways(1)).append(' ').append(x.ways(6)).append(' ').append(x.between(0, 2));
        all.append(" told ").append(x.agree()).append(' ').append(x.apart());
        usedOn(all, x);
        return all.toString();
    }

    private static void counts(StringBuilder all, FlowerPots x) {
        for (int what = 0; what <= 13; what++) {
            all.append(what == 0 ? " counts " : " ").append(x.count(what));
        }
    }

    private static void usedOn(StringBuilder all, FlowerPots x) {
        int acts = x.count(11);
        for (int i = 0; i < 6 && i <= acts; i++) {
            all.append(" undo ").append(x.undo()).append(' ').append(x.count(6)).append(' ').append(x.count(4));
        }
        all.append(" put ").append(x.put(1, 1)).append(' ').append(x.put(1, 2));
        all.append(" evening ").append(x.evening(0)).append(" frost ").append(x.frost(2));
        all.append(" back ").append(x.back());
        counts(all, x);
        all.append(' ').append(x.diary(0)).append(' ').append(x.diary(1)).append(' ').append(x.diary(x.count(5)));
        all.append(" drawn ").append(x.drawn(2, 3)).append(' ').append(x.count(6));
        all.append(" text ").append(x.text(2)).append(' ').append(x.text(0));
        counts(all, x);
    }
}
