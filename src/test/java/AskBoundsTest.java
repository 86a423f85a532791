/** The bounds of what is asked, sentence by sentence: Terms 2 and 3, and promises 14 to 30. */
public final class AskBoundsTest {
    private static final int NONE = FlowerPots.NONE;
    private static final int HIDDEN = FlowerPots.HIDDEN;
    private static final int[] FAR_OFF = {Integer.MIN_VALUE, -1000000, -3, -2, 8, 9, 1000000, Integer.MAX_VALUE};

    private AskBoundsTest() {
    }

    public static void main(String[] args) {
        rows();
        books();
        standing();
        betweens();
        nearests();
        nearestOfSeveral();
        nearestByLight();
        sayables();
        wordsMoves();
        wordsOfSeveral();
        wordNumbers();
        soonests();
        soonestBeyond();
        aunts();
        auntPots();
        safes();
        safeAndStanding();
        gaps();
        reads();
        doubles();
        doubleOfSeveral();
        seen();
        seenAndWays();
        ways();
        likelies();
        tolds();
        agrees();
        aparts();
        Checks.end("AskBoundsTest");
    }

    private static void due(String what, long got, long want) {
        Checks.due(what, got, want);
    }

    private static void due(String what, boolean got, boolean want) {
        Checks.due(what, got, want);
    }

    /** The row of all places with one pot. */
    private static int full(int places, int pot) {
        int row = 0;
        for (int place = 0; place < places; place++) {
            row = row * 10 + pot;
        }
        return row;
    }

    private static int power(int places) {
        int power = 1;
        for (int place = 0; place < places; place++) {
            power *= 10;
        }
        return power;
    }

    // ---------------------------------------------------------------- rows and books

    /** "A ROW tells of each PLACE 0, 1, 2: as digits"; "no ROW of this SILL (whether it can STAND or not)" */
    private static void rows() {
        for (int places = 2; places <= 5; places++) {
            FlowerPots x = Checks.made("n" + places + "r0w0", "a=?????;b=.....");
            due("the least row", x.says(0, 0), 0);
            due("the highest row, though it can't stand", x.says(0, full(places, 2)), 0);
            due("below the least", x.says(0, -1), HIDDEN);
            due("above the highest", x.says(0, full(places, 2) + 1), HIDDEN);
            due("one digit more", x.says(0, power(places)), HIDDEN);
            due("the highest row below none", x.says(0, -full(places, 2)), HIDDEN);
            due("MIN", x.says(0, Integer.MIN_VALUE), HIDDEN);
            due("MAX", x.says(0, Integer.MAX_VALUE), HIDDEN);
            for (int place = 0; place < places; place++) {
                for (int digit = 0; digit <= 9; digit++) {
                    int row = digit * power(place);
                    due("row " + row, x.says(0, row), digit <= 2 ? 0 : HIDDEN);
                    due("row " + row, x.tell(row, 8), NONE);
                }
            }
            // The same rows are refused where a row has to be one.
            Checks.text(x, 0, "n" + places + "r5w5");
            int[] none = {-1, 3, 30, full(places, 2) + 1, power(places), power(places) * 2, Integer.MIN_VALUE,
                Integer.MAX_VALUE};
            for (int row : none) {
                due("no such row: " + row, x.says(0, row), HIDDEN);
                due("no such row: " + row, x.between(row, 0), NONE);
                due("no such row: " + row, x.between(0, row), NONE);
                due("no such row: " + row, x.read(0, row), HIDDEN);
                due("no such row: " + row, x.tell(row, 0), NONE);
            }
            due("none was told", x.count(13), 0);
        }
    }

    /** A book's number too small or too large by one, with none to three books. */
    private static void books() {
        FlowerPots x = Checks.made("n2");
        Checks.text(x, 2, "a");
        for (int books = 0; books <= 3; books++) {
            int[] none = {-1, books, books + 1, Integer.MIN_VALUE, Integer.MAX_VALUE};
            for (int book : none) {
                String no = books + " books, no book " + book;
                due(no, x.says(book, 0), HIDDEN);
                due(no, x.nearest(book, 0, false, 0), NONE);
                due(no, x.nearest(book, 0, true, 1), NONE);
                due(no, x.sayable(book), NONE);
                due(no, x.word(book, 0, 0), NONE);
                due(no, x.soonest(book, 0), NONE);
                due(no, x.aunt(book, 0, 0), HIDDEN);
                due(no, x.aunt(book, 0, 1), HIDDEN);
                due(no, x.safe(book, 0, NONE), NONE);
                due(no, x.gap(book), NONE);
                due(no, x.read(book, 0), HIDDEN);
                due(no, x.both(book, 0, 0, 0, 0), NONE);
                due(no, x.both(0, 0, book, 0, 0), NONE);
                due(no, x.likely(book, 1, 1, 0), NONE);
            }
            if (books > 0) {
                due("the last one", x.says(books - 1, 0), 0);
                due("the last one", x.sayable(books - 1), 1);
                due("the last one", x.soonest(books - 1, 0), 1);
                due("the last one", x.both(0, 0, books - 1, 0, 0), 0);
            }
            Checks.text(x, 1, "a=??");
        }
    }

    /** "It can STAND, if it has no more RED, WHITE pots than there are." */
    private static void standing() {
        for (int red = 0; red <= 5; red++) {
            for (int white = 0; white <= 5; white++) {
                FlowerPots x = Checks.made("n5r" + red + "w" + white, "a=?????");
                for (int reds = 0; reds <= 5; reds++) {
                    int whites = 5 - reds;
                    int row = 0;
                    for (int place = 0; place < 5; place++) {
                        row = row * 10 + (place < reds ? 1 : 2);
                    }
                    boolean can = reds <= red && whites <= white;
                    due(row + " with " + red + ", " + white, x.between(row, row), can ? 0 : NONE);
                    due(row + " with " + red + ", " + white, x.between(0, row), can ? 5 : NONE);
                    due(row + " with " + red + ", " + white, x.read(0, row), can ? 0 : HIDDEN);
                }
            }
        }
    }

    /** "The fewest MOVES from a ROW to a ROW. NONE: they can't both STAND" */
    private static void betweens() {
        FlowerPots x = Checks.made("n3r1w1d1");
        due("no move", x.between(0, 0), 0);
        due("put", x.between(0, 200), 1);
        due("taken", x.between(200, 0), 1);
        due("moved", x.between(200, 2), 1);
        due("one for another", x.between(100, 200), 2);
        due("round about", x.between(120, 210), 3);
        due("more than a day has", x.between(12, 120), 2);
        due("one can't stand", x.between(110, 100), NONE);
        due("the other can't stand", x.between(100, 110), NONE);
        due("neither can stand", x.between(110, 110), NONE);
        due("neither can stand", x.between(220, 11), NONE);
        FlowerPots full = Checks.made("n2r2w2");
        due("full: changed round", full.between(12, 21), 3);
        due("full: one for another", full.between(11, 12), 2);
        due("full: all for others", full.between(11, 22), 4);
        FlowerPots five = Checks.made("n5r5w5");
        due("the most there are", five.between(11111, 22222), 10);
        due("back again", five.between(22222, 11111), 10);
        due("five", five.between(0, 12121), 5);
        for (int i = 0; i < 2; i++) {
            due("asked again: the same", five.between(1, 0), 1);
            due("asked again: the same", five.between(0, 22222), 5);
            due("asked again: the same", five.between(22222, 0), 5);
        }
    }

    // ---------------------------------------------------------------- the nearest row

    /** "NEAREST by any MOVES (right false), RIGHT ones: how many (0), the ROW (1). NONE: it can't be SAID, no such ones." */
    private static void nearests() {
        FlowerPots x = Checks.made("n2r1w1", "a=r.;h=.w;b=rr");
        boolean[] rights = {false, true};
        for (boolean right : rights) {
            due("the first letter", x.nearest(0, 0, right, 0), 1);
            due("the first letter", x.nearest(0, 0, right, 1), 10);
            due("the last letter", x.nearest(0, 7, right, 0), 1);
            due("the last letter", x.nearest(0, 7, right, 1), 2);
            for (int letter = 1; letter < 7; letter++) {
                due("it can't be said", x.nearest(0, letter, right, 0), NONE);
                due("it can't be said", x.nearest(0, letter, right, 1), NONE);
            }
            due("no such letter", x.nearest(0, NONE, right, 0), NONE);
            due("no such half", x.nearest(0, 0, right, NONE), NONE);
            due("no such half", x.nearest(0, 0, right, 2), NONE);
            for (int far : FAR_OFF) {
                due("no such letter", x.nearest(0, far, right, 0), NONE);
                due("no such half", x.nearest(0, 0, right, far), NONE);
            }
        }
        due("by frost it can't be said", x.frost(1), 0);
        due("it can't be said", x.nearest(0, 0, false, 0), NONE);
    }

    /** "to which there are the fewest MOVES from what stands (of several the least)" */
    private static void nearestOfSeveral() {
        FlowerPots x = Checks.made("n3r1w1d5", "a=r..;a=.r.;a=..r", "a=rw.;a=..w", "a=...;b=???");
        due("three at one move", x.nearest(0, 0, false, 1), 1);
        due("the nearer one", x.nearest(1, 0, false, 1), 2);
        due("what stands", x.nearest(2, 0, false, 0), 0);
        due("what stands: row 0", x.nearest(2, 0, false, 1), 0);
        due("three of each at one move", x.nearest(2, 1, false, 1), 1);
        x.put(0, 1);
        due("what stands", x.nearest(0, 0, false, 1), 100);
        due("what stands", x.nearest(0, 0, false, 0), 0);
        due("one move rather than two", x.nearest(1, 0, false, 1), 120);
        due("it stands still", x.count(6), 100);
        x.put(1, 2);
        due("of those at one move the least", x.nearest(2, 1, false, 1), 120);
        due("to nothing", x.nearest(2, 0, false, 0), 2);
    }

    /** "with RIGHT MOVES alone (of the DAY that is) likewise" */
    private static void nearestByLight() {
        FlowerPots x = Checks.made("n3r1w1d2", "a=r..;b=..r", "a=r..;a=.r.");
        Checks.text(x, 3, "y:d=0?p;y:0-p");
        x.light(0);
        x.put(1, 1);
        due("day 0: against the light", x.nearest(0, 0, true, 0), 2);
        due("day 0: to the light", x.nearest(0, 1, true, 0), 1);
        x.evening(0);
        due("day 1: to the light", x.nearest(0, 0, true, 0), 1);
        due("day 1: against the light", x.nearest(0, 1, true, 0), 2);
        due("any moves", x.nearest(0, 1, false, 0), 1);
        x.undo();
        x.undo();
        x.put(2, 1);
        due("of several the least", x.nearest(1, 0, true, 1), 10);
        due("both against the light", x.nearest(1, 0, true, 0), 2);
        due("of several the least, by any moves", x.nearest(1, 0, false, 1), 10);
        due("roads are by any moves, whatever was asked by light", x.between(1, 100), 1);
        due("roads are by any moves, whatever was asked by light", x.between(100, 1), 1);
        // Each two of five places, for either sort.
        for (int from = 0; from < 5; from++) {
            for (int to = 0; to < 5; to++) {
                for (int sort = 1; sort <= 2; sort++) {
                    StringBuilder signs = new StringBuilder(".....");
                    signs.setCharAt(to, " rw".charAt(sort));
                    FlowerPots y = Checks.made("n5r1w1d1", "a=" + signs);
                    Checks.text(y, 3, "y:s=1?p;y:0-p");
                    y.light(0);
                    y.put(from, sort);
                    int right = sort == 1 ? to - from : from - to;
                    due("from " + from + " to " + to + ", sort " + sort, y.nearest(0, 0, true, 0),
                        right == 0 ? 0 : right > 0 ? 1 : 2);
                }
            }
        }
    }

    /** "letters (bits) that some ROW that can STAND SAYS" */
    private static void sayables() {
        String all = "a=..;b=.r;c=.w;d=r.;e=rr;f=rw;g=w.;h=w?";
        due("all eight", Checks.made("n2r5w5", all).sayable(0), 255);
        due("no pots: a alone", Checks.made("n2r0w0", all).sayable(0), 1);
        due("one red pot", Checks.made("n2r1w0", all).sayable(0), 1 + 2 + 8);
        due("one white pot", Checks.made("n2r0w1", all).sayable(0), 1 + 4 + 64);
        due("one of each", Checks.made("n2r1w1", all).sayable(0), 255 - 16);
        due("two red ones", Checks.made("n2r2w0", all).sayable(0), 1 + 2 + 8 + 16);
        due("none", Checks.made("n2r1w1", "a=rr;h=ww").sayable(0), 0);
        due("h alone", Checks.made("n2r1w1", "h=??;a=..").sayable(0), 128);
        FlowerPots x = Checks.made("n2r1w1", "a=r?;b=?w");
        due("both", x.sayable(0), 3);
        x.frost(1);
        due("frost", x.sayable(0), 2);
        x.frost(2);
        due("frost again", x.sayable(0), 0);
    }

    // ---------------------------------------------------------------- words

    /** "on each no more MOVES than there are a DAY (on the first one: than are left)" */
    private static void wordsMoves() {
        for (int perDay = 1; perDay <= 5; perDay++) {
            FlowerPots x = Checks.made("n5r5w5d" + perDay, "a=.....;b=r....;c=rr...;d=rrr..;e=rrrr.;f=rrrrr");
            String[] words = {"aa", "ab", "ac", "ad"};
            for (int word = 0; word < 4; word++) {
                Checks.text(x, 2, words[word]);
                due(words[word] + " by " + perDay, x.word(0, word, 0), word <= perDay ? word : NONE);
                due(words[word] + " by " + perDay, x.word(0, word, 1), word <= perDay ? 0 : NONE);
            }
            FlowerPots y = Checks.made("n5r5w5d" + perDay, "a=.....;b=r....;c=rr...;d=rrr..;e=rrrr.;f=rrrrr");
            String letters = "cdef";
            for (int word = 0; word < 4; word++) {
                Checks.text(y, 2, letters.substring(word, word + 1));
            }
            for (int done = 0; done <= perDay; done++) {
                for (int word = 0; word < 4; word++) {
                    int steps = word + 2 - done % 2;
                    boolean can = steps <= perDay - done;
                    due("done " + done + " of " + perDay + ": " + letters.charAt(word), y.word(0, word, 0),
                        can ? steps : NONE);
                    due("done " + done + ": the row", y.word(0, word, 1) == NONE, !can);
                }
                due("a move", done % 2 == 0 ? y.put(0, 1) : y.take(0), done < perDay ? perDay - done - 1 : NONE);
            }
        }
    }

    /** "the fewest MOVES in all; the ROW of the first EVENING (of several ways the one with the least ROW then ..)" */
    private static void wordsOfSeveral() {
        FlowerPots x = Checks.made("n3r2w2d3", "a=..w;a=r..;b=rr.;b=.ww");
        Checks.text(x, 2, "ab");
        Checks.text(x, 2, "a");
        Checks.text(x, 2, "aaab");
        due("one move, then one: by red ones", x.word(0, 0, 0), 2);
        due("or by white ones: the least row", x.word(0, 0, 1), 2);
        due("one move", x.word(0, 1, 0), 1);
        due("the least row", x.word(0, 1, 1), 2);
        due("staying costs nothing", x.word(0, 2, 0), 2);
        FlowerPots y = Checks.made("n3r2w2d3", "a=..w;a=r..;b=rr.");
        Checks.text(y, 2, "ab");
        Checks.text(y, 2, "a");
        due("fewest in all, though not the least row", y.word(0, 0, 1), 100);
        due("fewest in all", y.word(0, 0, 0), 2);
        due("one letter: the least row", y.word(0, 1, 1), 2);
        // More moves on the first day, fewer in all.
        FlowerPots z = Checks.made("n3r2w2d2", "a=..w;a=rr.;b=rrw");
        Checks.text(z, 2, "ab");
        due("three in all", z.word(0, 0, 0), 3);
        due("one then two, or two then one: the least", z.word(0, 0, 1), 2);
    }

    /** "NONE: it can't be, no such ones, no SILL." */
    private static void wordNumbers() {
        FlowerPots x = Checks.made("n2r1w0", "a=r.;b=rr");
        for (int words = 0; words <= 4; words++) {
            due("no such word", x.word(0, words, 0), NONE);
            due("no such word", x.word(0, -1, 0), NONE);
            due("no such word", x.soonest(0, words), NONE);
            due("no such word", x.soonest(0, -1), NONE);
            Checks.text(x, 2, words < 4 ? "a" : "b");
            if (words < 4) {
                due("the last word", x.word(0, words, 0), 1);
                due("the last word", x.soonest(0, words), 1);
            }
        }
        for (int far : FAR_OFF) {
            due("no such word", x.word(0, far, 0), NONE);
            due("no such word", x.soonest(0, far), NONE);
            due("no such half", x.word(0, 0, far), NONE);
        }
        due("no such half", x.word(0, 0, NONE), NONE);
        due("no such half", x.word(0, 0, 2), NONE);
        FlowerPots y = Checks.made("n2r1w0", "a=r.;b=rr");
        Checks.text(y, 2, "b");
        due("it can't be", y.word(0, 0, 0), NONE);
        due("it can't be", y.word(0, 0, 1), NONE);
        due("it can't be", y.soonest(0, 0), NONE);
    }

    /** "other EVENINGS between, on which nothing is SAID: the fewest DAYS" */
    private static void soonests() {
        FlowerPots x = Checks.made("n5r5w5d2", "a=.....;b=rrrrr", "a=.....;b=rrrrr;c=?????");
        Checks.text(x, 2, "ab");
        Checks.text(x, 2, "aab");
        Checks.text(x, 2, "aaaaaaaa");
        Checks.text(x, 2, "b");
        due("five moves are three days", x.soonest(0, 0), 4);
        due("a twice", x.soonest(0, 1), 5);
        due("eight days", x.soonest(0, 2), 8);
        due("b alone", x.soonest(0, 3), 3);
        due("at once it can't be", x.word(0, 0, 0), NONE);
        due("something is said between", x.soonest(1, 0), NONE);
        due("eight days", x.soonest(1, 2), 8);
        x.put(0, 1);
        due("one is left today", x.soonest(0, 3), 3);
        x.put(1, 1);
        due("none is left today", x.soonest(0, 3), 3);
        due("none is left to take one in", x.take(1), NONE);
        x.evening(0);
        due("two days more", x.soonest(0, 3), 2);
        due("a again, then b", x.soonest(0, 0), 4);
        // The first a is better said late: rrr. has to be the second a, one evening ahead of rrrr.
        FlowerPots late = Checks.made("n4r4w0d1", "a=.r..;a=rr..;a=rrr.;b=rrrr;c=??r?;c=???r");
        Checks.text(late, 2, "aab");
        due("a silent evening, then aab", late.soonest(0, 0), 4);
        due("it can't be at once", late.word(0, 0, 0), NONE);
    }

    /** "NONE: not within 60 DAYS": the sixtieth, and one more. */
    private static void soonestBeyond() {
        String book = "a=rrrrr;b=wwwww;c=.....";
        FlowerPots x = Checks.made("n5r5w5d1", book);
        // Five moves to a, ten to b and back, five to nothing.
        Checks.text(x, 2, "abababc");
        Checks.text(x, 2, "abababcc");
        Checks.text(x, 2, "ababab");
        due("fifty-five", x.soonest(0, 2), 55);
        due("sixty", x.soonest(0, 0), 60);
        due("sixty-one", x.soonest(0, 1), NONE);
        x.put(0, 1);
        due("the first move is made: as many days", x.soonest(0, 0), 60);
        x.evening(0);
        due("the next day: one less", x.soonest(0, 0), 59);
        due("and there sixty", x.soonest(0, 1), 60);
        due("a move back", x.take(0), 0);
        due("none left today: sixty-one", x.soonest(0, 0), NONE);
    }

    // ---------------------------------------------------------------- the aunt

    /** "(NONE: nothing)"; "HIDDEN: no such ones (letter NONE .. 7)." */
    private static void aunts() {
        FlowerPots x = Checks.made("n2r1w1d1", "a=r.;h=.w;b=..");
        due("ways", x.aunt(0, 0, 1), 5);
        int[] wants = {2, 1, 1, 0, 0, 0, 0, 0, 1};
        for (int letter = NONE; letter <= 7; letter++) {
            due("letter " + letter, x.aunt(0, letter, 0), wants[letter + 1]);
            due("of how many", x.aunt(0, letter, 1), 5);
        }
        for (int what = 0; what <= 1; what++) {
            due("letter -2", x.aunt(0, -2, what), HIDDEN);
            due("letter 8", x.aunt(0, 8, what), HIDDEN);
            for (int far : FAR_OFF) {
                due("letter " + far, x.aunt(0, far, what), HIDDEN);
            }
        }
        due("what -1", x.aunt(0, 0, -1), HIDDEN);
        due("what 2", x.aunt(0, 0, 2), HIDDEN);
        for (int far : FAR_OFF) {
            due("what " + far, x.aunt(0, 0, far), HIDDEN);
        }
        x.put(0, 1);
        due("none left by hand", x.count(4), 0);
        due("hers: none, taken, moved, two put", x.aunt(0, 0, 1), 4);
        due("a: none", x.aunt(0, 0, 0), 1);
        due("nothing: moved, put", x.aunt(0, NONE, 0), 2);
    }

    /** Each MOVE there is, and none: down to none alone. */
    private static void auntPots() {
        due("no pots: none alone", Checks.made("n2r0w0", "a=..").aunt(0, 0, 1), 1);
        due("no pots: it says a", Checks.made("n2r0w0", "a=..").aunt(0, 0, 0), 1);
        due("one red one", Checks.made("n2r1w0", "a=..").aunt(0, 0, 1), 3);
        due("five places, both", Checks.made("n5", "a=..").aunt(0, 0, 1), 11);
        FlowerPots x = Checks.made("n5r5w5d5", "a=.....");
        int[] wants = {11, 14, 15, 14, 11, 6};
        for (int out = 0; out <= 5; out++) {
            due(out + " out", x.aunt(0, 0, 1), wants[out]);
            due(out + " out: to nothing", x.aunt(0, 0, 0), out <= 1 ? 1 : 0);
            x.put(out, 1);
        }
        FlowerPots y = Checks.made("n3r1w1d2", "a=...");
        y.put(0, 1);
        due("a red one inside no more", y.aunt(0, 0, 1), 6);
        y.frost(2);
        due("nor a white one", y.aunt(0, 0, 1), 4);
    }

    // ---------------------------------------------------------------- safe rows

    /** "how many (i NONE), the i-th. NONE: no such ones." */
    private static void safes() {
        FlowerPots x = Checks.made("n2r1w1", "a=r?;a=?r;h=ww");
        int[] safe = {1, 10, 12, 21};
        due("how many", x.safe(0, 0, NONE), 4);
        for (int i = 0; i < 4; i++) {
            due("rising: " + i, x.safe(0, 0, i), safe[i]);
        }
        due("one behind the last", x.safe(0, 0, 4), NONE);
        due("below NONE", x.safe(0, 0, -2), NONE);
        for (int far : FAR_OFF) {
            due("no such one", x.safe(0, 0, far), NONE);
            due("no such letter", x.safe(0, far, NONE), NONE);
            due("no such letter", x.safe(0, far, 0), NONE);
        }
        due("no such letter", x.safe(0, NONE, NONE), NONE);
        due("no such letter", x.safe(0, 8, NONE), NONE);
        due("h can't stand", x.safe(0, 7, NONE), 0);
        due("h can't stand", x.safe(0, 7, 0), NONE);
        for (int letter = 1; letter < 7; letter++) {
            due("it is not said", x.safe(0, letter, NONE), 0);
        }
    }

    /** "from which no MOVE leads to a ROW that SAYS another letter": rows that can stand, and nothing, are no harm. */
    private static void safeAndStanding() {
        String book = "a=r..;b=rr.";
        due("one red pot: b is far", Checks.made("n3r1w0", book).safe(0, 0, NONE), 1);
        due("two red pots: b is near", Checks.made("n3r2w0", book).safe(0, 0, NONE), 0);
        due("two red pots: a is near", Checks.made("n3r2w0", book).safe(0, 1, NONE), 0);
        FlowerPots x = Checks.made("n3r2w0", book, "a=r..;a=rr.", "a=r..;b=.rr");
        due("the same letter is no harm", x.safe(1, 0, NONE), 2);
        due("two moves away is no harm", x.safe(2, 0, NONE), 1);
        due("two moves away is no harm", x.safe(2, 1, NONE), 1);
        x.frost(1);
        due("frost: b is far", x.safe(0, 0, NONE), 1);
        due("frost: b can't be said", x.safe(0, 1, NONE), 0);
        due("the row of nothing", Checks.made("n2r1w1", "a=..").safe(0, 0, NONE), 1);
        due("the row of nothing", Checks.made("n2r1w1", "a=..").safe(0, 0, 0), 0);
        FlowerPots moved = Checks.made("n3r1w0", "a=r..;b=..r");
        due("a move from place to place", moved.safe(0, 0, NONE), 0);
        FlowerPots taken = Checks.made("n3r1w0", "a=r..;b=...");
        due("one is taken in", taken.safe(0, 0, NONE), 0);
        due("one is put out", taken.safe(0, 1, NONE), 0);
    }

    // ---------------------------------------------------------------- slips

    /** "NONE: fewer than two letters can be SAID, no such BOOK, no SILL." */
    private static void gaps() {
        due("no letter", Checks.made("n2r1w1", "a=rr;b=ww").gap(0), NONE);
        due("one letter", Checks.made("n2r1w1", "a=r.;b=ww").gap(0), NONE);
        due("one letter, two clauses", Checks.made("n2r1w1", "a=r.;a=.w").gap(0), NONE);
        due("two letters", Checks.made("n2r1w1", "a=r.;b=.w").gap(0), 2);
        due("two letters, the last ones", Checks.made("n2r1w1", "g=..;h=rw").gap(0), 2);
        due("one move", Checks.made("n2r1w1", "a=r.;b=.r").gap(0), 1);
        due("ten moves", Checks.made("n5r5w5", "a=rrrrr;b=wwwww").gap(0), 10);
        due("the row of no pots", Checks.made("n5r5w5", "a=.....;b=wwwww").gap(0), 5);
        FlowerPots x = Checks.made("n3r2w0", "a=...;b=rr.");
        due("two", x.gap(0), 2);
        x.frost(1);
        due("b can't be said", x.gap(0), NONE);
    }

    /** "NONE: none, or unlike ones. HIDDEN: no such BOOK, ROW that can STAND." */
    private static void reads() {
        FlowerPots x = Checks.made("n3r1w1", "a=r..;h=..r", "a=rr.", "a=r..;a=.r.;b=..w");
        due("itself", x.read(0, 100), 0);
        due("itself", x.read(0, 1), 7);
        due("unlike ones equally near", x.read(0, 0), NONE);
        due("unlike ones equally near", x.read(0, 10), NONE);
        due("one is nearer", x.read(0, 120), 0);
        due("one is nearer", x.read(0, 21), 7);
        due("none can be said", x.read(1, 0), NONE);
        due("the row of nothing says one", Checks.made("n2r1w1", "b=..").read(0, 0), 1);
        due("the row of nothing is as near as a", Checks.made("n2r1w1", "b=..;a=rw").read(0, 2), NONE);
        due("the row of nothing is nearer than a", Checks.made("n2r1w1", "b=..;a=.r").read(0, 20), 1);
        due("three equally near, one unlike", x.read(2, 0), NONE);
        due("two of a letter are nearer", x.read(2, 1), 0);
        due("it can't stand", x.read(0, 110), HIDDEN);
        due("it can't stand, though it says one", x.read(1, 110), HIDDEN);
        due("only those that can stand count", x.read(0, 12), NONE);
        x.frost(1);
        due("h and a can't be said", x.read(0, 2), NONE);
        due("it can't stand now", x.read(0, 100), HIDDEN);
        due("b alone", x.read(2, 0), 1);
    }

    // ---------------------------------------------------------------- doubles

    /** "DOUBLE (two letter NONE: nothing): how many (0), the ROW (1). NONE: none, no such ones." */
    private static void doubles() {
        FlowerPots x = Checks.made("n2r1w1", "a=r?;h=?w", "h=?.;a=.w");
        due("a and h", x.both(0, 0, 1, 7, 1), 10);
        due("a and h", x.both(0, 0, 1, 7, 0), 1);
        due("h and a", x.both(0, 7, 1, 0, 1), 2);
        due("a and nothing", x.both(0, 0, 1, NONE, 1), 12);
        due("a and nothing", x.both(0, 0, 1, NONE, 0), 2);
        due("h and nothing", x.both(0, 7, 1, NONE, 0), NONE);
        due("a and a", x.both(0, 0, 1, 0, 0), NONE);
        due("the books the other way", x.both(1, 7, 0, 0, 1), 10);
        due("h and nothing the other way", x.both(1, 7, 0, NONE, 1), 0);
        due("no such letter", x.both(0, NONE, 1, 7, 0), NONE);
        due("no such letter", x.both(0, 8, 1, 7, 0), NONE);
        due("no such second letter", x.both(0, 0, 1, 8, 0), NONE);
        due("no such second letter", x.both(0, 0, 1, -2, 0), NONE);
        due("no such half", x.both(0, 0, 1, 7, -1), NONE);
        due("no such half", x.both(0, 0, 1, 7, 2), NONE);
        for (int far : FAR_OFF) {
            due("no such letter", x.both(0, far, 1, 7, 0), NONE);
            due("no such second letter", x.both(0, 0, 1, far, 0), NONE);
            due("no such half", x.both(0, 0, 1, 7, far), NONE);
        }
    }

    /** "the one with the fewest MOVES from what stands (of several the least)" */
    private static void doubleOfSeveral() {
        FlowerPots x = Checks.made("n3r1w1d2", "a=???", "b=r..;b=.r.;b=.rw");
        due("two at one move: the least", x.both(0, 0, 1, 1, 1), 10);
        x.put(0, 1);
        due("what stands", x.both(0, 0, 1, 1, 0), 0);
        due("what stands", x.both(0, 0, 1, 1, 1), 100);
        x.put(2, 2);
        due("one move: to 012 or 100", x.both(0, 0, 1, 1, 0), 1);
        due("the least", x.both(0, 0, 1, 1, 1), 12);
        x.undo();
        x.undo();
        x.frost(1);
        due("none can stand", x.both(0, 0, 1, 1, 0), NONE);
        due("nothing by the other book", x.both(0, 0, 1, NONE, 1), 0);
    }

    // ---------------------------------------------------------------- seen

    /** "SEEN (12 at most)"; "NONE: no such ones, there are twelve." */
    private static void seen() {
        for (int places = 2; places <= 5; places++) {
            FlowerPots x = Checks.made("n" + places);
            for (int far : FAR_OFF) {
                due("no such day", x.see(far, 0, 0), NONE);
                due("no such place", x.see(1, far, 0), NONE);
                due("no such pot", x.see(1, 0, far), NONE);
            }
            due("no such day", x.see(0, 0, 0), NONE);
            due("no such day", x.see(-1, 0, 0), NONE);
            due("no such day", x.see(7, 0, 0), NONE);
            due("no such place", x.see(1, -1, 0), NONE);
            due("no such place", x.see(1, places, 0), NONE);
            due("no such pot", x.see(1, 0, -1), NONE);
            due("no such pot", x.see(1, 0, 3), NONE);
            due("none was seen", x.count(12), 0);
            due("none was seen", x.ways(6), Checks.made("n" + places).ways(6));
            due("the first day", x.see(1, 0, 0), 1);
            due("the last day, place and pot", x.see(6, places - 1, 2), 2);
            for (int i = 3; i <= 12; i++) {
                due("the same is seen once more", x.see(1, 0, 0), i);
            }
            long ways = x.ways(6);
            due("a thirteenth", x.see(1, 0, 1), NONE);
            due("still twelve", x.count(12), 12);
            due("it does not count", x.ways(6), ways);
        }
    }

    /** "in the EVENING of a DAY from now (1 .. 6; 1 that of the DAY that is) a PLACE had 0, 1, 2" */
    private static void seenAndWays() {
        for (int day = 1; day <= 6; day++) {
            for (int pot = 0; pot <= 2; pot++) {
                FlowerPots x = Checks.made("n2r5w5d5");
                due("seen", x.see(day, 1, pot), 1);
                long all = 1;
                for (int n = 1; n <= 6; n++) {
                    all *= n == day ? 3 : 9;
                    due(n + " days, seen on the day " + day, x.ways(n), all);
                }
                x.see(day, 1, (pot + 1) % 3);
                for (int n = 1; n <= 6; n++) {
                    due("two pots at once: " + n, x.ways(n) == 0, n >= day);
                }
            }
        }
        // On the day that is no moves are left: what stands is what is seen.
        FlowerPots x = Checks.made("n2r1w0d1");
        x.put(0, 1);
        x.see(1, 0, 1);
        due("it stands", x.ways(1), 1);
        x.see(1, 1, 0);
        due("nothing else", x.ways(1), 1);
        x.see(1, 0, 0);
        due("but it stands", x.ways(1), 0);
    }

    /** "WAYS of n (1 .. 6) DAYS": "no more MOVES between than a DAY has; first: from what stands by those left" */
    private static void ways() {
        FlowerPots x = Checks.made("n2r1w1d3");
        int[] none = {0, 7, -1, Integer.MIN_VALUE, Integer.MAX_VALUE};
        for (int n : none) {
            due("out of bounds: " + n, x.ways(n), NONE);
        }
        due("any of seven rows", x.ways(1), 7);
        due("for two days", x.ways(2), 49);
        due("for six days", x.ways(6), 117649);
        FlowerPots slow = Checks.made("n2r1w1d1");
        due("one move", slow.ways(1), 5);
        slow.put(0, 1);
        due("none left", slow.ways(1), 1);
        due("none left, then one", slow.ways(2), 4);
        FlowerPots two = Checks.made("n2r1w1d2");
        due("two moves: all rows", two.ways(1), 7);
        two.put(0, 1);
        due("one left", two.ways(1), 4);
        two.put(1, 2);
        due("none left", two.ways(1), 1);
        due("the next day two: not 21", two.ways(2), 6);
        two.evening(0);
        due("no pots", Checks.made("n2r0w0").ways(6), 1);
        FlowerPots all = Checks.made("n5r5w5d5");
        due("five moves from nothing", all.ways(1), 243);
        due("beyond ints", all.ways(6) > 1L << 40, true);
        // Frost: rows that can no more stand are no ways.
        x.frost(1);
        due("no red one", x.ways(1), 3);
    }

    /** "in how many of these a letter is SAID by a BOOK in the EVENING of a DAY (NONE: nothing)"; "(day 1 .. n)" */
    private static void likelies() {
        FlowerPots x = Checks.made("n2r1w1d3", "a=r?;h=?r");
        for (int n = 1; n <= 6; n++) {
            long all = x.ways(n);
            for (int day = 1; day <= n; day++) {
                due("a on day " + day + " of " + n, x.likely(0, n, day, 0), all / 7 * 2);
                due("h on day " + day + " of " + n, x.likely(0, n, day, 7), all / 7 * 2);
                due("nothing on day " + day + " of " + n, x.likely(0, n, day, NONE), all / 7 * 3);
                due("b never", x.likely(0, n, day, 1), 0);
            }
            due("day 0", x.likely(0, n, 0, 0), NONE);
            due("a day behind", x.likely(0, n, n + 1, 0), NONE);
            due("letter -2", x.likely(0, n, 1, -2), NONE);
            due("letter 8", x.likely(0, n, 1, 8), NONE);
            for (int far : FAR_OFF) {
                due("no such day", x.likely(0, n, far, 0), NONE);
                due("no such letter", x.likely(0, n, 1, far), NONE);
                due("no such days", x.likely(0, far, 1, 0), NONE);
            }
        }
        due("no days", x.likely(0, 0, 1, 0), NONE);
        due("no days", x.likely(0, 0, 0, 0), NONE);
        due("seven days", x.likely(0, 7, 1, 0), NONE);
        x.see(2, 0, 1);
        due("of one day as before", x.likely(0, 1, 1, 0), 2);
        due("seen on the next day", x.likely(0, 2, 1, 0), 4);
        due("a then", x.likely(0, 2, 2, 0), 14);
        due("h then never", x.likely(0, 2, 2, 7), 0);
        FlowerPots none = Checks.made("n2");
        due("no book", none.likely(0, 1, 1, 0), NONE);
    }

    // ---------------------------------------------------------------- told

    /** "TOLD (12 at most)"; "NONE: no ROW of this SILL, no such letter, there are twelve." */
    private static void tolds() {
        FlowerPots x = Checks.made("n2r0w0", "a=??");
        due("no such letter", x.tell(0, NONE), NONE);
        due("no such letter", x.tell(0, 8), NONE);
        for (int far : FAR_OFF) {
            due("no such letter", x.tell(0, far), NONE);
        }
        due("none was told", x.count(13), 0);
        due("a row that can't stand", x.tell(22, 0), 1);
        due("the last letter", x.tell(22, 7), 2);
        due("alike rows", x.apart(), NONE);
        FlowerPots y = Checks.made("n2", "a=??", "b=??");
        for (int i = 1; i <= 12; i++) {
            due("how many", y.tell(i % 3, 0), i);
        }
        due("one book", y.agree(), 1);
        due("a thirteenth", y.tell(10, 1), NONE);
        due("still twelve", y.count(13), 12);
        due("it does not count", y.agree(), 1);
        due("it does not count", y.apart(), 0);
        FlowerPots z = Checks.made("n2", "a=??", "b=??");
        for (int i = 1; i <= 11; i++) {
            z.tell(0, 0);
        }
        due("a twelfth", z.tell(10, 1), 12);
        due("it counts", z.agree(), 0);
        due("it counts", z.apart(), 1);
    }

    /** "BOOKS (bits) by which all TOLD are so." "NONE: no SILL." */
    private static void agrees() {
        FlowerPots x = Checks.made("n2r0w0");
        due("no books", x.agree(), 0);
        Checks.text(x, 1, "a=r?;b=??");
        due("one book, nothing told", x.agree(), 1);
        Checks.text(x, 1, "a=r.;b=..");
        due("two books, nothing told", x.agree(), 3);
        Checks.text(x, 1, "a=r?");
        due("three books, nothing told", x.agree(), 7);
        x.tell(10, 0);
        due("all three", x.agree(), 7);
        x.tell(11, 0);
        due("a row that can't stand", x.agree(), 5);
        x.tell(0, 1);
        due("the third one says nothing", x.agree(), 1);
        x.tell(0, 2);
        due("none", x.agree(), 0);
        FlowerPots first = Checks.made("n2", "a=??", "b=??");
        first.tell(0, 1);
        due("one told, and it is so by the second book alone", first.agree(), 2);
    }

    /** "the fewest PLACES (bits; of several the least) by which any two TOLD ROWS of unlike letters differ" */
    private static void aparts() {
        FlowerPots x = Checks.made("n5");
        due("none told", x.apart(), 0);
        x.tell(0, 0);
        due("one told", x.apart(), 0);
        x.tell(0, 0);
        due("alike rows of one letter", x.apart(), 0);
        x.tell(22222, 0);
        due("unlike rows of one letter", x.apart(), 0);
        int[] rows = {1, 10, 100, 1000, 10000};
        int[] wants = {16, 24, 28, 30, 31};
        for (int i = 0; i < 5; i++) {
            x.tell(rows[i], 1);
            due("places from the last one on", x.apart(), wants[i]);
        }
        x.tell(22222, 1);
        due("two alike rows of unlike letters", x.apart(), NONE);
        for (int place = 0; place < 5; place++) {
            FlowerPots y = Checks.made("n5");
            y.tell(0, 0);
            y.tell(2 * power(4 - place), 7);
            due("place " + place, y.apart(), 1 << place);
        }
        FlowerPots several = Checks.made("n5");
        several.tell(11111, 0);
        several.tell(22222, 1);
        due("of several the least", several.apart(), 1);
        several.tell(12211, 2);
        due("two places: 0 and 1", several.apart(), 3);
        FlowerPots fewest = Checks.made("n3");
        fewest.tell(0, 0);
        fewest.tell(101, 1);
        fewest.tell(12, 2);
        due("place 2 alone, rather than 0 and 1", fewest.apart(), 4);
        FlowerPots two = Checks.made("n2");
        two.tell(0, 0);
        two.tell(1, 1);
        two.tell(10, 1);
        due("all of two places", two.apart(), 3);
    }
}
