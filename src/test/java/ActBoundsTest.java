import java.util.ArrayList;
import java.util.List;

/** The bounds of acts and days, sentence by sentence: Terms 2, and promises 6 to 13 and 31 to 36. */
public final class ActBoundsTest {
    private static final int NONE = FlowerPots.NONE;
    private static final int HIDDEN = FlowerPots.HIDDEN;
    private static final int[] FAR_OFF = {Integer.MIN_VALUE, -1000000, -2, -1, 5, 6, 1000000, Integer.MAX_VALUE};

    private ActBoundsTest() {
    }

    public static void main(String[] args) {
        places();
        lights();
        lightNumbers();
        puts();
        potsInside();
        takes();
        moves();
        movesOfADay();
        evenings();
        sixtyEvenings();
        sixtyByHandAndDrawn();
        undone();
        sixtyActs();
        undoneAndDiary();
        frosts();
        frostAndActs();
        drawnDays();
        drawnBeyond();
        drawnDraws();
        drawnFull();
        drawnAndActs();
        diaries();
        images();
        imageOfAll();
        counts();
        Checks.end("ActBoundsTest");
    }

    private static void due(String what, long got, long want) {
        Checks.due(what, got, want);
    }

    private static void due(String what, boolean got, boolean want) {
        Checks.due(what, got, want);
    }

    /** MOVES left, the DAY, the ROW and how many ACTS, in one number. */
    private static long state(FlowerPots x) {
        return ((x.count(11) * 100L + x.count(5)) * 10 + x.count(4)) * 100000 + x.count(6);
    }

    private static long told(int acts, int day, int left, int row) {
        return ((acts * 100L + day) * 10 + left) * 100000 + row;
    }

    // ---------------------------------------------------------------- places and light

    /** "What stands at a PLACE. NoSuchElementException: no such one." "PLACE 0 the highest" */
    private static void places() {
        for (int places = 2; places <= 5; places++) {
            FlowerPots x = Checks.made("n" + places + "r5w5d5");
            int row = 0;
            for (int place = 0; place < places; place++) {
                // "At first nothing stands out."
                due("at first", x.at(place), 0);
                x.put(place, 1 + place % 2);
                due("at(" + place + ")", x.at(place), 1 + place % 2);
                row = row * 10 + 1 + place % 2;
            }
            due("the row", x.count(6), row);
            Checks.noSuchPlace("at(-1)", x, -1);
            Checks.noSuchPlace("at(" + places + ")", x, places);
            for (int place : FAR_OFF) {
                Checks.noSuchPlace("at(" + place + ")", x, place);
            }
            due("what throws changes nothing", x.count(6), row);
        }
    }

    /** "a MOVE from PLACE to PLACE looks RIGHT, if LIGHT there is no less than LIGHT here; others always do" */
    private static void lights() {
        int[] worths = {4, 5, 6};
        for (int there : worths) {
            FlowerPots x = Checks.made("n2r1w0d2", "a=.r;b=..");
            Checks.text(x, 3, "y:p=0?5;y:" + there);
            x.light(0);
            x.put(0, 1);
            due("light 5 here, there " + there, x.nearest(0, 0, true, 0), there >= 5 ? 1 : 2);
            due("one is taken in", x.nearest(0, 1, true, 0), 1);
            due("any move", x.nearest(0, 0, false, 0), 1);
        }
        // The LIGHT of the moved pot's sort counts.
        for (int sort = 1; sort <= 2; sort++) {
            FlowerPots x = Checks.made("n2r1w1d2", "a=.r;a=.w");
            Checks.text(x, 3, "y:s=1?p;y:0-p");
            x.light(0);
            x.put(0, sort);
            due("sort " + sort, x.nearest(0, 0, true, 0), sort == 1 ? 1 : 2);
        }
        // "none at first: 0", so that all look right.
        FlowerPots x = Checks.made("n2r1w0d2", "a=r.");
        Checks.text(x, 3, "y:p");
        x.put(1, 1);
        due("none at first", x.lightAt(1, 1), 0);
        due("none at first", x.nearest(0, 0, true, 0), 1);
        x.light(0);
        due("it holds", x.nearest(0, 0, true, 0), 2);
        x.light(NONE);
        due("none again", x.nearest(0, 0, true, 0), 1);
    }

    /** "The LIGHT that holds (NONE: none). False: no such one, no SILL." */
    private static void lightNumbers() {
        FlowerPots x = new FlowerPots();
        for (int light = 0; light < 4; light++) {
            Checks.text(x, 3, "y:" + (light + 1));
            due("no sill", x.light(light), false);
        }
        due("no sill, none", x.light(NONE), false);
        Checks.text(x, 0, "n2");
        for (int light = 0; light < 4; light++) {
            due("a light", x.light(light), true);
            due("it holds", x.lightAt(0, 1), light + 1);
        }
        int[] none = {4, 5, -2, Integer.MIN_VALUE, Integer.MAX_VALUE};
        for (int light : none) {
            due("no such light " + light, x.light(light), false);
            due("the fourth still holds", x.lightAt(0, 1), 4);
        }
        due("none", x.light(NONE), true);
        due("none holds", x.lightAt(0, 1), 0);
        due("no such light", x.light(4), false);
        due("none holds still", x.lightAt(0, 1), 0);
    }

    // ---------------------------------------------------------------- moves

    /** "NONE: none left, none inside, no such ones, something stands there." */
    private static void puts() {
        for (int places = 2; places <= 5; places++) {
            FlowerPots x = Checks.made("n" + places + "d5");
            long before = state(x);
            due("no such place", x.put(-1, 1), NONE);
            due("no such place", x.put(places, 1), NONE);
            due("no such sort", x.put(0, 0), NONE);
            due("no such sort", x.put(0, 3), NONE);
            due("no such sort", x.put(0, -1), NONE);
            for (int far : FAR_OFF) {
                due("no such place", x.put(far, 2), NONE);
                due("no such sort", x.put(0, far), NONE);
            }
            due("nothing is changed", state(x), before);
            due("the last place", x.put(places - 1, 2), 4);
            due("the first place", x.put(0, 1), 3);
            for (int sort = 1; sort <= 2; sort++) {
                due("something stands there", x.put(0, sort), NONE);
                due("something stands there", x.put(places - 1, sort), NONE);
            }
            due("what stands", x.at(0) * 10 + x.at(places - 1), 12);
            due("two moves", x.count(4), 3);
        }
    }

    /** "none inside": as many as there are, and one more. */
    private static void potsInside() {
        for (int pots = 0; pots <= 5; pots++) {
            FlowerPots red = Checks.made("n5d5w0r" + pots);
            FlowerPots white = Checks.made("n5d5r0w" + pots);
            for (int place = 0; place < 5; place++) {
                due(pots + " red ones", red.put(place, 1), place < pots ? 4 - place : NONE);
                due("no white one", red.put(place, 2), NONE);
                due(pots + " white ones", white.put(place, 2), place < pots ? 4 - place : NONE);
                due("no red one", white.put(place, 1), NONE);
            }
            due("pots are counted in and out", red.count(1) * 10 + white.count(2), pots * 11);
        }
        FlowerPots x = Checks.made("n3r1w0d5");
        x.put(0, 1);
        due("it is out", x.put(1, 1), NONE);
        x.take(0);
        due("it is in again", x.put(1, 1), 2);
        x.undo();
        due("it is in by undo", x.put(2, 1), 2);
        x.undo();
        x.undo();
        due("it is out by undo", x.put(2, 1), NONE);
    }

    /** "NONE: none left, nothing stands there, no such PLACE." */
    private static void takes() {
        for (int places = 2; places <= 5; places++) {
            FlowerPots x = Checks.made("n" + places + "d4");
            due("nothing stands there", x.take(0), NONE);
            due("nothing stands there", x.take(places - 1), NONE);
            x.put(places - 1, 1);
            x.put(0, 2);
            long before = state(x);
            due("no such place", x.take(-1), NONE);
            due("no such place", x.take(places), NONE);
            for (int far : FAR_OFF) {
                due("no such place", x.take(far), NONE);
            }
            due("nothing is changed", state(x), before);
            due("the last place", x.take(places - 1), 1);
            due("the first place", x.take(0), 0);
            due("nothing stands", x.count(6), 0);
        }
        FlowerPots x = Checks.made("n2d1");
        x.put(0, 1);
        due("none left", x.take(0), NONE);
        due("it still stands", x.at(0), 1);
    }

    /** "NONE: none left, nothing stands there, something stands where it goes, no such ones." */
    private static void moves() {
        for (int places = 3; places <= 5; places++) {
            FlowerPots x = Checks.made("n" + places + "d5");
            x.put(0, 1);
            x.put(places - 1, 2);
            long before = state(x);
            for (int far : FAR_OFF) {
                due("no such place", x.move(0, far), NONE);
                due("no such place", x.move(far, 1), NONE);
            }
            due("no such place", x.move(0, places), NONE);
            due("no such place", x.move(places, 1), NONE);
            due("nothing stands there", x.move(1, 1), NONE);
            due("nothing stands there", x.move(1, 0), NONE);
            due("something stands where it goes", x.move(0, places - 1), NONE);
            due("something stands where it goes", x.move(places - 1, 0), NONE);
            due("something stands where it goes: itself", x.move(0, 0), NONE);
            due("nothing is changed", state(x), before);
            due("to the next one", x.move(0, 1), 2);
            due("from the last to the first one", x.move(places - 1, 0), 1);
            due("what stands", x.at(0) * 10 + x.at(1), 21);
            due("from the second to the last one", x.move(1, places - 1), 0);
            before = state(x);
            due("none left", x.move(0, 1), NONE);
            due("nothing is changed", state(x), before);
        }
        // All pots out: still they are moved.
        FlowerPots x = Checks.made("n2r1w0d5");
        x.put(0, 1);
        due("the only pot", x.move(0, 1), 3);
        due("the only pot", x.move(1, 0), 2);
    }

    /** "MOVES by hand are no more than there are a DAY" */
    private static void movesOfADay() {
        for (int perDay = 1; perDay <= 5; perDay++) {
            FlowerPots x = Checks.made("n5r5w5d" + perDay, "a=.....");
            for (int day = 0; day < 3; day++) {
                due("moves a day", x.count(3), perDay);
                due("moves left", x.count(4), perDay);
                for (int i = 1; i <= perDay; i++) {
                    int left = i % 2 == 1 ? x.put(day, 1) : x.take(day);
                    due("moves left", left, perDay - i);
                }
                due("none left to put", x.put(4, 2), NONE);
                due("none left to take", x.take(day), NONE);
                due("none left to move", x.move(day, 4), NONE);
                x.undo();
                due("one is left again", x.count(4), 1);
                due("the last one again", perDay % 2 == 1 ? x.put(day, 1) : x.take(day), 0);
                x.evening(0);
            }
        }
    }

    // ---------------------------------------------------------------- evenings

    /** "what is SAID by a BOOK (NONE: nothing). HIDDEN: no such BOOK, no SILL, there were 60." */
    private static void evenings() {
        FlowerPots x = Checks.made("n2d1");
        due("no books at all", x.evening(0), HIDDEN);
        String[] books = {"a=r.", "b=r.", "h=??"};
        for (int book = 0; book < 3; book++) {
            Checks.text(x, 1, books[book]);
            due("one book too many", x.evening(book + 1), HIDDEN);
            due("below the first", x.evening(-1), HIDDEN);
            due("no evening yet", state(x), told(0, 0, 1, 0));
        }
        for (int book : FAR_OFF) {
            due("no such book", x.evening(book), HIDDEN);
        }
        x.put(0, 1);
        due("none left", x.count(4), 0);
        due("refused: none left still", x.evening(3), HIDDEN);
        due("refused: none left still", state(x), told(1, 0, 0, 10));
        due("said by the first book", x.evening(0), 0);
        due("a day with its move", state(x), told(2, 1, 1, 10));
        due("said by the second book", x.evening(1), 1);
        due("said by the third book", x.evening(2), 7);
        x.take(0);
        due("nothing is said", x.evening(0), NONE);
        due("an evening all the same", state(x), told(6, 4, 1, 0));
        // A ROW is put by in the DIARY whatever the BOOK says.
        due("the diary", x.diary(0) * 100 + x.diary(3), 1000);
    }

    /** "(60 EVENINGS at most, by hand and drawn; what is asked of DAYS to come goes on beyond)" */
    private static void sixtyEvenings() {
        FlowerPots x = Checks.made("n2r1w0d1", "a=r.;b=.r");
        Checks.text(x, 2, "ab");
        x.put(0, 1);
        for (int day = 0; day < 60; day++) {
            due("an evening", x.evening(0), 0);
            due("the day", x.count(5), day + 1);
        }
        long before = state(x);
        due("the sixty-first", x.evening(0), HIDDEN);
        due("drawn", x.drawn(1, 0), NONE);
        due("nothing is changed", state(x), before);
        due("the last one of the diary", x.diary(59), 10);
        due("none behind it", x.diary(60), NONE);
        due("moves go on", x.move(0, 1), 0);
        due("the sixty-first", x.evening(0), HIDDEN);
        due("moves left as they were", x.count(4), 0);
        due("the diary as it was", x.diary(60), NONE);
        due("ways go on beyond", x.ways(6), 243);
        due("likely goes on beyond", x.likely(0, 6, 6, 1), 81);
        due("words go on beyond", x.word(0, 0, 0), NONE);
        x.undo();
        due("words go on beyond", x.word(0, 0, 0), 1);
        due("soonest goes on beyond", x.soonest(0, 0), 2);
        x.undo();
        due("an evening is undone", x.count(5), 59);
        due("there is room for one", x.evening(0), 0);
        due("and for no more", x.evening(0), HIDDEN);
    }

    private static void sixtyByHandAndDrawn() {
        FlowerPots x = Checks.made("n2d1", "a=??");
        due("twenty", x.drawn(20, 1), 20);
        for (int day = 0; day < 20; day++) {
            x.evening(0);
        }
        due("forty", x.count(5), 40);
        due("fifty-nine", x.drawn(19, 1), 59);
        due("two are too many", x.drawn(2, 1), NONE);
        due("none of the two was", x.count(5), 59);
        due("the sixtieth", x.evening(0), 0);
        due("no more by hand", x.evening(0), HIDDEN);
        due("no more drawn", x.drawn(1, 1), NONE);
        FlowerPots y = Checks.made("n2d1", "a=??");
        y.image();
        for (int i = 1; i <= 3; i++) {
            due("drawn sixty", y.drawn(20, i), 20 * i);
        }
        due("no more drawn", y.drawn(1, 1), NONE);
        due("no more by hand", y.evening(0), HIDDEN);
        y.back();
        due("behind BACK there is room again", y.drawn(20, 1), 20);
    }

    // ---------------------------------------------------------------- undone

    /** "The latest ACT is UNDONE: how many there are. NONE: none." */
    private static void undone() {
        FlowerPots x = Checks.made("n3d5", "a=...");
        due("none", x.undo(), NONE);
        long[] states = new long[7];
        states[0] = state(x);
        x.put(0, 1);
        states[1] = state(x);
        x.move(0, 2);
        states[2] = state(x);
        x.put(1, 2);
        states[3] = state(x);
        x.take(2);
        states[4] = state(x);
        x.evening(0);
        states[5] = state(x);
        x.evening(0);
        states[6] = state(x);
        for (int acts = 5; acts >= 0; acts--) {
            due("undo", x.undo(), acts);
            due("as it was with " + acts + " acts", state(x), states[acts]);
        }
        due("none", x.undo(), NONE);
        due("as it was at first", state(x), states[0]);
        // What is refused, asked, seen, told, held or kept is no ACT.
        x.put(3, 1);
        x.evening(1);
        x.see(1, 0, 0);
        x.tell(0, 0);
        x.light(NONE);
        x.image();
        due("no act", x.undo(), NONE);
        due("seen, told and the image stay", x.count(12) * 100 + x.count(13) * 10 + x.back(), 110);
    }

    /** "ACTS (MOVES, EVENINGS; 60 at most) can be UNDONE": the sixtieth, and one more. */
    private static void sixtyActs() {
        for (int more = 0; more <= 2; more++) {
            FlowerPots x = Checks.made("n5r5w5d5", "a=?????");
            List<Long> states = new ArrayList<>();
            for (int act = 0; act < 60 + more; act++) {
                states.add(state(x) % 100000000L);
                int place = act / 5 % 5;
                int answer = act % 5 == 4 ? x.evening(0) : act % 5 % 2 == 0 ? x.put(place, 1) : x.take(place);
                due("act " + act, answer, act % 5 == 4 ? 0 : 4 - act % 5);
                due("acts", x.count(11), Math.min(act + 1, 60));
            }
            for (int acts = 59; acts >= 0; acts--) {
                due("undo", x.undo(), acts);
                due("as it was", state(x) % 100000000L, states.get(acts + more));
            }
            due("none behind sixty", x.undo(), NONE);
            due("as it was", state(x), states.get(more));
            due("acts are kept again", x.evening(0), 0);
            due("one", x.count(11), 1);
        }
    }

    private static void undoneAndDiary() {
        FlowerPots x = Checks.made("n2d2", "a=??");
        x.put(0, 1);
        x.evening(0);
        x.put(1, 2);
        x.evening(0);
        x.undo();
        due("the second evening is undone", x.diary(1), NONE);
        due("the first one not", x.diary(0), 10);
        x.undo();
        x.undo();
        due("the first evening is undone", x.diary(0), NONE);
        x.take(0);
        x.evening(0);
        due("another first evening", x.diary(0), 0);
        due("and no second one", x.diary(1), NONE);
    }

    // ---------------------------------------------------------------- frost

    /** "how many of the sort (1, 2) there are. NONE: none inside, no such sort." */
    private static void frosts() {
        FlowerPots x = Checks.made("n5r2w3d5");
        due("no such sort", x.frost(0), NONE);
        due("no such sort", x.frost(3), NONE);
        for (int far : FAR_OFF) {
            due("no such sort", x.frost(far), NONE);
        }
        due("pots as they were", x.count(1) * 10 + x.count(2), 23);
        x.put(0, 1);
        x.put(1, 2);
        x.put(2, 2);
        due("one white one inside", x.frost(2), 2);
        due("none inside", x.frost(2), NONE);
        due("the last red one inside", x.frost(1), 1);
        due("none inside", x.frost(1), NONE);
        due("what stands stays", x.count(6), 12200);
        due("moves left stay", x.count(4), 2);
        due("no red one to put", x.put(3, 1), NONE);
        x.take(0);
        due("taken in it dies", x.frost(1), 0);
        due("there are none", x.frost(1), NONE);
        due("pots", x.count(1) * 10 + x.count(2), 2);
        due("rows with a red one can't stand", x.between(0, 10000), NONE);
        due("rows with two white ones can", x.between(0, 22), 2);
        due("three can't", x.between(0, 222), NONE);
        FlowerPots none = Checks.made("n2r0w0");
        due("no red ones at all", none.frost(1), NONE);
        due("no white ones at all", none.frost(2), NONE);
    }

    /** "(No ACT can be UNDONE then.)" */
    private static void frostAndActs() {
        FlowerPots x = Checks.made("n3r1w1d5", "a=...");
        x.put(0, 1);
        x.evening(0);
        due("refused", x.frost(1), NONE);
        due("refused", x.frost(3), NONE);
        due("acts stay", x.count(11), 2);
        due("it dies", x.frost(2), 0);
        due("no acts", x.count(11), 0);
        due("none to undo", x.undo(), NONE);
        due("the day and the diary stay", x.count(5) * 1000 + x.diary(0), 1100);
        x.take(0);
        due("acts behind it", x.undo(), 0);
        due("what stands", x.count(6), 100);
        FlowerPots y = Checks.made("n3r1w1d5", "a=...");
        y.put(0, 1);
        y.evening(0);
        y.put(1, 2);
        y.take(1);
        y.frost(2);
        y.take(0);
        due("undone behind frost", y.undo(), 0);
        due("row, day and moves left as ahead of the taking", state(y), told(0, 1, 3, 100));
    }

    // ---------------------------------------------------------------- days by draws

    /** "n (1 .. 20) DAYS go by": "which DAY is next. NONE: no SILL, out of bounds" */
    private static void drawnDays() {
        FlowerPots x = Checks.made("n3");
        int[] none = {0, -1, 21, 22, Integer.MIN_VALUE, Integer.MAX_VALUE};
        for (int n : none) {
            due("out of bounds: " + n, x.drawn(n, 1), NONE);
        }
        due("no day went by", state(x), told(0, 0, 2, 0));
        due("one", x.drawn(1, 1), 1);
        due("twenty", x.drawn(20, 1), 21);
        due("a row each", x.diary(20), x.count(6));
        due("none behind", x.diary(21), NONE);
    }

    /** "more than 60 EVENINGS" */
    private static void drawnBeyond() {
        for (int before = 39; before <= 42; before++) {
            FlowerPots x = Checks.made("n3", "a=???");
            for (int day = 0; day < before; day++) {
                x.evening(0);
            }
            x.put(0, 1);
            long was = state(x);
            boolean can = before + 20 <= 60;
            due("twenty behind " + before, x.drawn(20, 3), can ? before + 20 : NONE);
            due("changed or not", state(x) != was, can);
            due("the diary", x.diary(before) == NONE, !can);
        }
    }

    private static long next(long x) {
        return x * 6364136223846793005L + 1442695040888963407L;
    }

    /** "a draw of how many there are, and 1 (0 none; else by the ROWS to which they lead, rising ..)" */
    private static void drawnDraws() {
        int[] rising = {100, 0, 1, 10, 102, 120};
        int[] counts = new int[6];
        for (int i = 0; i < 60; i++) {
            long seed = i < 2 ? Long.MIN_VALUE + i : i < 4 ? Long.MAX_VALUE - i : i * 31L - 40;
            FlowerPots x = Checks.made("n3r1w1d1");
            x.put(0, 1);
            due("none is left by hand", x.put(1, 2), NONE);
            due("a day is drawn all the same", x.drawn(1, seed), 1);
            int draw = (int) ((next(seed) >>> 33) % 6);
            counts[draw]++;
            due("the draw of " + seed, x.count(6), rising[draw]);
            due("moves of the next day", x.count(4), 1);
            // The second draw goes on from the first one.
            FlowerPots y = Checks.made("n3r1w1d1");
            y.put(0, 1);
            y.drawn(2, seed);
            x.drawn(1, next(seed));
            due("two at once or one by one", y.count(6), x.count(6));
            due("the first of two", y.diary(0), rising[draw]);
        }
        for (int draw = 0; draw < 6; draw++) {
            due("each draw came: " + draw, counts[draw] > 0, true);
        }
    }

    /** Nothing to put, and nowhere to move: fewer MOVES, down to none at all. */
    private static void drawnFull() {
        for (int seed = 0; seed < 20; seed++) {
            int draw = (int) ((next(seed) >>> 33) % 3);
            FlowerPots x = Checks.made("n2r1w1d2");
            x.put(0, 1);
            x.put(1, 2);
            x.drawn(1, seed);
            due("a full sill: one is taken in, or none", x.count(6), draw == 0 ? 12 : draw == 1 ? 2 : 10);
            FlowerPots y = Checks.made("n2r0w0");
            y.drawn(1, seed);
            due("no pots", y.count(6) * 10 + y.count(5), 1);
            FlowerPots z = Checks.made("n2r1w0");
            z.drawn(1, seed);
            due("one red pot", z.count(6), draw == 0 ? 0 : draw == 1 ? 1 : 10);
        }
    }

    /** "(DAYS so drawn can't be UNDONE, nor what was ahead of them.)" */
    private static void drawnAndActs() {
        FlowerPots x = Checks.made("n3", "a=???");
        x.put(0, 1);
        x.evening(0);
        due("refused", x.drawn(21, 1), NONE);
        due("refused", x.drawn(0, 1), NONE);
        due("acts stay", x.count(11), 2);
        x.drawn(1, 1);
        due("no acts", x.count(11), 0);
        due("none to undo", x.undo(), NONE);
        int row = x.count(6);
        x.evening(0);
        due("an act behind it", x.undo(), 0);
        due("what stands", x.count(6), row);
        due("none to undo", x.undo(), NONE);
        due("day 2", x.count(5), 2);
    }

    // ---------------------------------------------------------------- the diary, images

    /** "The ROW in the EVENING of a DAY. NONE: no such one." */
    private static void diaries() {
        FlowerPots x = Checks.made("n2d1", "a=??");
        for (int day = 0; day < 60; day++) {
            due("not yet", x.diary(day), NONE);
            int place = day / 2 % 2;
            due("a move", day % 2 == 0 ? x.put(place, 1) : x.take(place), 0);
            due("not before the evening", x.diary(day), NONE);
            x.evening(0);
            due("then", x.diary(day), day % 2 == 1 ? 0 : place == 0 ? 10 : 1);
        }
        for (int day = 0; day < 60; day++) {
            due("day " + day, x.diary(day), day % 2 == 1 ? 0 : day / 2 % 2 == 0 ? 10 : 1);
        }
        int[] none = {-1, 60, 61, Integer.MIN_VALUE, Integer.MAX_VALUE};
        for (int day : none) {
            due("no such day " + day, x.diary(day), NONE);
        }
    }

    /** "An IMAGE (instead of the one ahead): the DAY. NONE: no SILL." "BACK: the DAY. NONE: no IMAGE of this SILL." */
    private static void images() {
        FlowerPots x = Checks.made("n2d2", "a=??");
        due("no image", x.back(), NONE);
        x.put(0, 1);
        due("refused: the act stays", x.count(11), 1);
        due("day 0", x.image(), 0);
        due("an image is no act", x.count(11), 1);
        x.evening(0);
        due("day 1", x.image(), 1);
        x.evening(0);
        due("back to the second image", x.back(), 1);
        due("as it was", state(x), told(0, 1, 2, 10));
        due("no act can be undone", x.undo(), NONE);
        x.take(0);
        due("back once more", x.back(), 1);
        due("as it was", state(x), told(0, 1, 2, 10));
        Checks.text(x, 0, "n2d2");
        due("no image of this sill", x.back(), NONE);
        due("day 0", x.image(), 0);
        for (int i = 0; i < 3; i++) {
            x.drawn(20, i);
        }
        due("day 60", x.image(), 60);
        int row = x.count(6);
        int left = x.count(4);
        due("back to day 60", x.back(), 60);
        due("its diary", x.diary(59), row);
        due("its moves", x.count(4), left);
        due("no more evenings", x.evening(0), HIDDEN);
    }

    /** "An IMAGE keeps the ROW, the DAY, MOVES left, pots, the DIARY" */
    private static void imageOfAll() {
        FlowerPots x = Checks.made("n3r2w2d2", "a=???");
        Checks.text(x, 3, "y:p");
        x.put(0, 1);
        x.evening(0);
        x.frost(2);
        x.put(1, 2);
        x.evening(0);
        x.take(1);
        x.image();
        x.light(0);
        x.frost(1);
        x.frost(2);
        due("two red ones can't stand", x.between(0, 110), NONE);
        due("roads from nothing", x.between(0, 10), 1);
        x.undo();
        x.take(0);
        x.evening(0);
        x.drawn(3, 8);
        x.see(1, 1, 1);
        x.tell(111, 3);
        due("back", x.back(), 2);
        due("the row, the day, moves left", state(x), told(0, 2, 1, 100));
        due("pots", x.count(1) * 10 + x.count(2), 21);
        due("the diary", x.diary(0) * 1000 + x.diary(1), 100120);
        due("no more of it", x.diary(2), NONE);
        due("roads as they were", x.between(110, 2), 3);
        due("rows with two red ones", x.between(0, 110), 2);
        due("two white ones can't stand", x.between(0, 22), NONE);
        due("the light holds still", x.lightAt(2, 1), 2);
        due("seen and told stay", x.count(12) * 10 + x.count(13), 11);
        // What comes behind does not change the image.
        x.evening(0);
        x.frost(1);
        due("back", x.back(), 2);
        due("pots", x.count(1), 2);
        due("the diary", x.diary(1), 120);
        due("no more of it", x.diary(2), NONE);
        // An ACT ahead of the image is undone: the image still has it.
        FlowerPots y = Checks.made("n3d2", "a=???");
        y.put(0, 1);
        y.evening(0);
        y.image();
        y.undo();
        y.undo();
        y.evening(0);
        due("another diary", y.diary(0), 0);
        due("back", y.back(), 1);
        due("the image's diary", y.diary(0), 100);
        due("the image's row", y.count(6), 100);
    }

    /** "HIDDEN for others." */
    private static void counts() {
        FlowerPots x = Checks.made("n5r4w3d2");
        due("places", x.count(0), 5);
        due("red pots", x.count(1), 4);
        due("white pots", x.count(2), 3);
        due("moves a day", x.count(3), 2);
        x.put(0, 1);
        due("red pots, out too", x.count(1), 4);
        due("left", x.count(4), 1);
        int[] others = {-1, 14, 15, Integer.MIN_VALUE, Integer.MAX_VALUE};
        for (int what : others) {
            due("count(" + what + ")", x.count(what), HIDDEN);
        }
    }
}
