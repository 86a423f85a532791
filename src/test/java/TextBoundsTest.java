/** The bounds of texts, sentence by sentence of the document: Terms 1, and promises 1 to 5. */
public final class TextBoundsTest {
    private static final int NONE = FlowerPots.NONE;
    private static final int HIDDEN = FlowerPots.HIDDEN;
    private static final String LETTERS = "abcdefgh";
    private static final String SIGNS = ".rw?";
    private static final String DIGITS = "0123456789";
    /** What a sum can begin with, but for brackets. */
    private static final String FLAT = DIGITS + "pdsn";
    private static final String EIGHT = "a=..;b=..;c=..;d=..;e=..;f=..;g=..;h=..";

    private TextBoundsTest() {
    }

    public static void main(String[] args) {
        sillPlaces();
        sillItems();
        sillEnds();
        bookClauses();
        bookSigns();
        bookAndPlaces();
        wordLetters();
        lightSigns();
        lightNumbers();
        lightDepths();
        lightBounds();
        lightLetters();
        lightClauses();
        blanks();
        tape();
        tapeEnds();
        faultSorts();
        newObject();
        textRefused();
        textLimits();
        textOfSills();
        sillsBehindSills();
        lastCall();
        Checks.end("TextBoundsTest");
    }

    private static void due(String what, long got, long want) {
        Checks.due(what, got, want);
    }

    private static void due(String what, boolean got, boolean want) {
        Checks.due(what, got, want);
    }

    /** Behind a beginning the text can go on with some bytes, a blank (32), and with no others. */
    private static void goesOn(int sort, String begun, String bytes) {
        FlowerPots x = null;
        for (int sign = 1; sign <= 255; sign++) {
            if (sign % 128 == 1) {
                x = new FlowerPots();
                Checks.write(x, begun);
            }
            x.feed(sign << 24, 0, 0, 0, 0);
            int fault = x.fault(sort);
            boolean on = fault == NONE || fault == begun.length() + 1;
            boolean can = sign == ' ' || bytes.indexOf(sign) >= 0;
            due("sort " + sort + ": '" + begun + "' goes on with byte " + sign, on, can);
            due("sort " + sort + ": '" + begun + "' ends at byte " + sign, fault == begun.length(), !can);
            x.end(begun.length());
        }
    }

    private static void fault(int sort, String text, int want) {
        due("fault(" + sort + ") of '" + text + "'", Checks.fault(sort, text), want);
    }

    // ---------------------------------------------------------------- sills

    /** "n and how many PLACES (2 .. 5)" */
    private static void sillPlaces() {
        goesOn(0, "", "n");
        goesOn(0, "n", "2345");
        for (int places = 0; places <= 9; places++) {
            FlowerPots x = new FlowerPots();
            boolean can = places >= 2 && places <= 5;
            due("a sill of so many places: " + places, Checks.text(x, 0, "n" + places), can ? places : NONE);
            due("it is there: " + places, x.count(0), can ? places : 0);
            due("the tape is empty, or as it was", x.count(10), can ? 0 : 2);
        }
    }

    /** "r RED pots (0 .. 5; 2 without), w WHITE ones (0 .. 5; 2), d moves a DAY (1 .. 5; 2)" */
    private static void sillItems() {
        goesOn(0, "n3r", "012345");
        goesOn(0, "n3w", "012345");
        goesOn(0, "n3d", "12345");
        String letters = "rwd";
        for (int item = 0; item < 3; item++) {
            for (int digit = 0; digit <= 9; digit++) {
                FlowerPots x = new FlowerPots();
                boolean can = digit <= 5 && (digit > 0 || item < 2);
                String text = "n4" + letters.charAt(item) + digit;
                due("text(0) of " + text, Checks.text(x, 0, text), can ? 4 : NONE);
                for (int other = 0; other < 3; other++) {
                    int want = !can ? 0 : other == item ? digit : 2;
                    due(text + ": count(" + (other + 1) + ")", x.count(other + 1), want);
                }
                due(text + ": moves left", x.count(4), x.count(3));
            }
        }
        // "none or more: a letter, each once at most"
        goesOn(0, "n3", "rwd");
        goesOn(0, "n3r0", "wd");
        goesOn(0, "n3w5", "rd");
        goesOn(0, "n3d1", "rw");
        goesOn(0, "n3d1r0", "w");
        goesOn(0, "n3w0r5", "d");
        goesOn(0, "n3d5w5", "r");
        for (String text : new String[] {"n5r0w1d3", "n5r0d3w1", "n5w1r0d3", "n5w1d3r0", "n5d3r0w1", "n5d3w1r0"}) {
            goesOn(0, text, "");
            FlowerPots x = Checks.made(text);
            due(text, x.count(1) * 100 + x.count(2) * 10 + x.count(3), 13);
        }
    }

    /** "(the length, if it ends too early)"; "a second digit of an ITEM" */
    private static void sillEnds() {
        fault(0, "", 0);
        fault(0, "  ", 2);
        fault(0, "n", 1);
        fault(0, "n  ", 3);
        fault(0, "n3r", 3);
        fault(0, "n3r ", 4);
        fault(0, "n3r1w", 5);
        fault(0, "n3r1w1d", 7);
        fault(0, "n33", 2);
        fault(0, "n3 3", 3);
        fault(0, "n3r11", 4);
        fault(0, "n3r1 1", 5);
        fault(0, "n3r1w1d11", 8);
        fault(0, "n3r1n3", 4);
        // Every beginning of a sill that ends behind a digit is a sill.
        String whole = "n2r3w4d5";
        for (int end = 0; end < whole.length(); end++) {
            fault(0, whole.substring(0, end), end > 0 && end % 2 == 0 ? NONE : end);
        }
    }

    // ---------------------------------------------------------------- books

    /** "CLAUSES with ; between, one to eight: a letter a .. h, =" */
    private static void bookClauses() {
        goesOn(1, "", LETTERS);
        goesOn(1, "h", "=");
        goesOn(1, "a=..;", LETTERS);
        goesOn(1, "a=..;a", "=");
        for (int clauses = 1; clauses <= 7; clauses++) {
            String begun = EIGHT.substring(0, clauses * 5 - 1);
            fault(1, begun, NONE);
            goesOn(1, begun, clauses == 1 ? SIGNS + ";" : ";");
            fault(1, begun + ";", clauses * 5);
        }
        // "the ; ahead of a ninth CLAUSE of a BOOK"
        fault(1, EIGHT, NONE);
        goesOn(1, EIGHT, "");
        fault(1, EIGHT + "  ;", 41);
        String wide = EIGHT.replace("..", ".....");
        fault(1, wide, NONE);
        goesOn(1, wide, "");
        FlowerPots x = Checks.made("n2", EIGHT.replace("h=..", "h=??"));
        due("the eighth clause counts", x.says(0, 1), 7);
        due("the first clause that fits", x.says(0, 0), 0);
        FlowerPots y = Checks.made("n2", "h=r.");
        due("one clause", y.says(0, 10), 7);
        due("else nothing", y.says(0, 20), NONE);
    }

    /** "then signs: . r w ?, one for each PLACE (2 .. 5; all CLAUSES have as many as the first one)" */
    private static void bookSigns() {
        goesOn(1, "a=", SIGNS);
        goesOn(1, "a=r", SIGNS);
        goesOn(1, "a=rw", SIGNS + ";");
        goesOn(1, "a=rw?", SIGNS + ";");
        goesOn(1, "a=rw?.", SIGNS + ";");
        goesOn(1, "a=rw?.r", ";");
        for (int width = 2; width <= 5; width++) {
            String begun = "a=" + "?".repeat(width) + ";b=";
            for (int signs = 0; signs <= width; signs++) {
                goesOn(1, begun + ".".repeat(signs), signs < width ? SIGNS : ";");
            }
            // "one sign of a CLAUSE too many, the ; behind one too few"
            fault(1, begun + ".".repeat(width + 1), begun.length() + width);
            fault(1, begun + ".".repeat(width - 1) + ";", begun.length() + width - 1);
            fault(1, begun + ".".repeat(width - 1), begun.length() + width - 1);
            fault(1, begun + ".".repeat(width), NONE);
        }
        fault(1, "a=.;", 3);
        fault(1, "a=;", 2);
        fault(1, "a=......", 7);
        fault(1, "a=..;b=..;c=.;", 13);
        fault(1, "a=..;b=..;c=...", 14);
    }

    /** "fewer than PLACES: nothing stands on the others; more: the others are not looked at" */
    private static void bookAndPlaces() {
        int[] lowest = {0, 0, 22, 222, 2222, 22222};
        for (int places = 2; places <= 5; places++) {
            for (int width = 2; width <= 5; width++) {
                FlowerPots x = Checks.made("n" + places, "a=" + "?".repeat(width), "b=" + "r".repeat(width));
                String told = places + " places, " + width + " signs: ";
                due(told + "all stand full", x.says(0, lowest[places]), width >= places ? 0 : NONE);
                due(told + "the last place", x.says(0, 1), width >= places ? 0 : NONE);
                due(told + "the first place", x.says(0, lowest[places] - lowest[places - 1]), 0);
                int red = 0;
                for (int place = 0; place < places; place++) {
                    red = red * 10 + (place < width ? 1 : 0);
                }
                due(told + "red ones on its signs' places", x.says(1, red), 1);
                due(told + "nothing at all", x.says(1, 0), NONE);
            }
        }
        FlowerPots narrow = Checks.made("n3", "a=?????", "b=??");
        due("a narrow book behind a wide one", narrow.says(1, 220), 1);
        due("a narrow book behind a wide one", narrow.says(1, 1), NONE);
        // BOOKS are told anew of another SILL.
        FlowerPots x = Checks.made("n5", "a=rr?");
        due("on five places", x.says(0, 11200), 0);
        due("on five places", x.says(0, 11210), NONE);
        Checks.text(x, 0, "n2");
        due("on two places", x.says(0, 11), 0);
        Checks.text(x, 0, "n4");
        due("on four places", x.says(0, 1120), 0);
        due("on four places", x.says(0, 1121), NONE);
    }

    // ---------------------------------------------------------------- words

    /** "letters a .. h, one to eight"; "a ninth letter of a WORD" */
    private static void wordLetters() {
        fault(2, "", 0);
        fault(2, " ", 1);
        String word = "habcdefgh";
        for (int letters = 0; letters <= 8; letters++) {
            goesOn(2, word.substring(0, letters), letters < 8 ? LETTERS : "");
        }
        fault(2, word, 8);
        fault(2, "a b c d e f g h a", 16);
        fault(2, "aaaaaaaa  a", 10);
        FlowerPots x = Checks.made("n2r5w5d5", "h=r.;a=.w");
        due("a word of eight", Checks.text(x, 2, "hahahaha"), 0);
        due("a word of nine", Checks.text(x, 2, "hahahahah"), NONE);
        x.end(1);
        due("a word of one", x.text(2), 1);
        due("eight letters by 10 and 2, and 2 again", x.word(0, 0, 0), 15);
        due("one letter", x.word(0, 1, 0), 1);
    }

    // ---------------------------------------------------------------- lights

    private static void lightSigns() {
        goesOn(3, "", "y");
        goesOn(3, "y", ":");
        goesOn(3, "y:", FLAT + "[(!");
        goesOn(3, "y:p", "+-*/=<>;");
        goesOn(3, "y:p+", FLAT + "[");
        goesOn(3, "y:p/", FLAT + "[");
        goesOn(3, "y:p*n", "+-*/=<>;");
        goesOn(3, "y:p=", FLAT + "[");
        goesOn(3, "y:p<n", "+-*/&|?");
        goesOn(3, "y:p>n&", FLAT + "[(!");
        goesOn(3, "y:p>n|", FLAT + "[(!");
        goesOn(3, "y:p>n|s", "+-*/=<>");
        goesOn(3, "y:p>n|s=d", "+-*/&|?");
        goesOn(3, "y:p=n?", FLAT + "[");
        goesOn(3, "y:p=n?s", "+-*/;");
        goesOn(3, "y:0;", "y");
        goesOn(3, "y:p=n?s;y:", FLAT + "[(!");
        // "(A CLAUSE that goes on with ! or ( behind its : has a CONDITION.)"
        goesOn(3, "y:!", FLAT + "[(!");
        goesOn(3, "y:(", FLAT + "[(!");
        goesOn(3, "y:!p", "+-*/=<>");
        goesOn(3, "y:!p=d", "+-*/&|?");
        goesOn(3, "y:(p", "+-*/=<>");
        goesOn(3, "y:(p=d", "+-*/&|)");
        goesOn(3, "y:(p=d)", "&|?");
        goesOn(3, "y:!(p=d)", "&|?");
        goesOn(3, "y:(p=d)?n", "+-*/;");
        goesOn(3, "y:[", FLAT + "[");
        goesOn(3, "y:[p", "+-*/]");
        goesOn(3, "y:[p]", "+-*/=<>;");
        goesOn(3, "y:(p=[d", "+-*/]");
        goesOn(3, "y:(p=[d]", "+-*/&|)");
    }

    /** "a number (1 to 4 digits)"; "(a fifth one of a number in a LIGHT)" */
    private static void lightNumbers() {
        goesOn(3, "y:0", DIGITS + "+-*/=<>;");
        goesOn(3, "y:012", DIGITS + "+-*/=<>;");
        goesOn(3, "y:9999", "+-*/=<>;");
        goesOn(3, "y:0000", "+-*/=<>;");
        goesOn(3, "y:p<9999", "+-*/&|?");
        goesOn(3, "y:p=1?9999", "+-*/;");
        goesOn(3, "y:[9999", "+-*/]");
        fault(3, "y:12345", 6);
        fault(3, "y:1234 5", 7);
        // "Blanks may stand between all signs, not within numbers."
        goesOn(3, "y:1 ", "+-*/=<>;");
        fault(3, "y:1 2", 4);
        fault(3, "y:p=12 3?0", 7);
        worth("y:9999", 9999);
        worth("y:0", 0);
        worth("y:0009", 9);
        worth("y:10", 10);
    }

    /** "At most six of ( [ ! within one another"; "a seventh of ( [ !" */
    private static void lightDepths() {
        for (int open = 0; open <= 6; open++) {
            for (int nots = 0; nots <= open; nots++) {
                String begun = "y:" + "!".repeat(nots) + "(".repeat(open - nots);
                goesOn(3, begun, FLAT + (open < 6 ? "[(!" : ""));
                String sums = "y:" + "!".repeat(nots) + "p=" + "[".repeat(open - nots);
                goesOn(3, sums, FLAT + (open < 6 ? "[" : ""));
            }
            goesOn(3, "y:" + "[".repeat(open), FLAT + (open < 6 ? "[" : "") + (open < 1 ? "(!" : ""));
            goesOn(3, "y:p=1?" + "[".repeat(open), FLAT + (open < 6 ? "[" : ""));
        }
        goesOn(3, "y:!(!(!(", FLAT);
        goesOn(3, "y:(((p=[[[", FLAT);
        goesOn(3, "y:(((p=[[[1]", "+-*/]");
        // What is closed is no longer open.
        goesOn(3, "y:[[[[[[1]+", FLAT + "[");
        goesOn(3, "y:((((((1=1)|", FLAT + "[(!");
        goesOn(3, "y:!!!!!!1=1&", FLAT + "[(!");
        goesOn(3, "y:(!!!!!1=1&", FLAT + "[(!");
        goesOn(3, "y:[[[[[[1]]]]]]+", FLAT + "[");
        goesOn(3, "y:[[[[[[1]]]]]]=", FLAT + "[");
        worth("y:[[[[[[p+4]]]]]]", 7);
        worth("y:!!!!!!p=3?1;y:2", 1);
        worth("y:((((((p=3))))))?1;y:2", 1);
        worth("y:!(!(!(p=3)))?1;y:2", 2);
    }

    private static void worth(String light, int want) {
        FlowerPots x = Checks.made("n5");
        due("text(3) of " + light, Checks.text(x, 3, light), 0);
        due("light(0)", x.light(0), true);
        due("worth of " + light, x.lightAt(3, 2), want);
    }

    /** "Behind each sign numbers are within -1,000,000 .. 1,000,000; / cuts towards 0, by 0 gives 0" */
    private static void lightBounds() {
        worth("y:1000*1000", 1000000);
        worth("y:1000*1000-1", 999999);
        worth("y:1000*1000+1", 1000000);
        worth("y:1000*1000+1-1", 999999);
        worth("y:999*1001+1", 1000000);
        worth("y:999*1001+2", 1000000);
        worth("y:999*1001+2-2", 999998);
        worth("y:1000*1001", 1000000);
        worth("y:1000*1001/1001", 999);
        worth("y:0-1000*1000", -1000000);
        worth("y:0-1000*1000-1", -1000000);
        worth("y:0-1000*1000-1+1", -999999);
        worth("y:[0-1000]*1001/1001", -999);
        worth("y:[0-9999]*9999*9999*9999*9999", -1000000);
        worth("y:[0-9999]*9999*[0-9999]*9999", 1000000);
        worth("y:9999*9999=1000*1000?1;y:2", 1);
        worth("y:9999*9999>1000*1000?1;y:2", 2);
        worth("y:0-9999*9999<0-1000*1000?1;y:2", 2);
        worth("y:7/0", 0);
        worth("y:0/0", 0);
        worth("y:7/[p-3]+1", 1);
        worth("y:[0-7]/[p-3]", 0);
        worth("y:1/2", 0);
        worth("y:[0-1]/2", 0);
        worth("y:[0-3]/2", -1);
        worth("y:3/[0-2]", -1);
        worth("y:[0-3]/[0-2]", 1);
        worth("y:[0-4]/2", -2);
        worth("y:1000*1000/1", 1000000);
        worth("y:[0-1000]*1000/[0-1]", 1000000);
        // As long as the TAPE is.
        worth("y:1" + "+1".repeat(58) + " ", 59);
    }

    /** "a letter (p d s n)": "p the PLACE, d the DAY, s the pot's sort 1 or 2, n how many PLACES" */
    private static void lightLetters() {
        for (int places = 2; places <= 5; places++) {
            FlowerPots x = Checks.made("n" + places);
            Checks.text(x, 3, "y:p*1000+s*100+n*10+d");
            x.light(0);
            for (int sort = 1; sort <= 2; sort++) {
                for (int place = 0; place < places; place++) {
                    due("lightAt", x.lightAt(place, sort), place * 1000 + sort * 100 + places * 10);
                }
                due("no such place", x.lightAt(-1, sort), HIDDEN);
                due("no such place", x.lightAt(places, sort), HIDDEN);
            }
            for (int place = 0; place < places; place++) {
                due("no such sort", x.lightAt(place, 0), HIDDEN);
                due("no such sort", x.lightAt(place, 3), HIDDEN);
            }
        }
        FlowerPots x = Checks.made("n2");
        Checks.text(x, 3, "y:d");
        x.light(0);
        for (int day = 0; day < 60; day += 20) {
            due("the day that is", x.lightAt(0, 1), day);
            x.drawn(20, day);
        }
        due("day 60", x.lightAt(1, 2), 60);
    }

    /** "the SUM of the first CLAUSE whose CONDITION holds (or has none), 0 without" */
    private static void lightClauses() {
        worth("y:p=2?1", 0);
        worth("y:p=2?1;y:p=4?2", 0);
        worth("y:p=2?1;y:p=3?2", 2);
        worth("y:p=2?1;y:3;y:p=3?2", 3);
        worth("y:p=3?4;y:3", 4);
        worth("y:3;y:p=3?4", 3);
        worth("y:p<3?1;y:p>3?2;y:p=3?3", 3);
        worth("y:p<4?1;y:2", 1);
        worth("y:p>2?1;y:2", 1);
        worth("y:p=3&s=2&n=5?1;y:2", 1);
        worth("y:p=3&s=1&n=5?1;y:2", 2);
        worth("y:p=4|s=1|n=5?1;y:2", 1);
        worth("y:p=4|s=1|n=4?1;y:2", 2);
        worth("y:p=3|s=2&n=4?1;y:2", 1);
        worth("y:p=4&s=2|n=5?1;y:2", 1);
        worth("y:!p=4&s=1?1;y:2", 2);
        worth("y:!(p=4&s=1)?1;y:2", 1);
        FlowerPots x = Checks.made("n2");
        Checks.text(x, 3, "y:p=1?5");
        x.light(0);
        for (int i = 0; i < 4; i++) {
            due("each place by itself", x.lightAt(i % 2, 1), i % 2 == 1 ? 5 : 0);
        }
        // Many CLAUSES, as far as the TAPE goes.
        worth("y:0=1?1;".repeat(14) + "y:6", 6);
        goesOn(3, "y:0=1?1;".repeat(14) + "y:6", DIGITS + "+-*/=<>;");
    }

    // ---------------------------------------------------------------- blanks

    /** "Blanks (32) may stand between all signs of all these" */
    private static void blanks() {
        String[] texts = {"n5r3w4d1", "h=?.rw?;a=.....;h=wwwww", "habcdefg", "y:!(p=[n+1]*2|d<s)&p>0?n/2-1;y:p"};
        for (int sort = 0; sort < texts.length; sort++) {
            String text = texts[sort];
            for (int i = 0; i <= text.length(); i++) {
                fault(sort, text.substring(0, i) + "   " + text.substring(i), NONE);
                // Neither a tab nor the end of a line is a blank.
                fault(sort, text.substring(0, i) + "\t" + text.substring(i), i);
                fault(sort, text.substring(0, i) + "\n" + text.substring(i), i);
                fault(sort, text.substring(0, i) + (char) 160 + text.substring(i), i);
            }
            String spread = text.replaceAll("(.)", " $1") + " ";
            fault(sort, spread, NONE);
        }
        FlowerPots x = Checks.made(" n 3 w 1 ", " b = r . ? ; a = . . . ");
        due("as without blanks", x.count(0) * 100 + x.count(1) * 10 + x.count(2), 321);
        due("as without blanks", x.says(0, 102) * 10 + x.says(0, 0), 10);
        due("a word", Checks.text(x, 2, " a b "), 0);
        due("as without blanks", x.word(0, 0, 0) * 1000 + x.word(0, 0, 1), 1000);
        due("a light", Checks.text(x, 3, " y : 12 + [ p ] "), 0);
        x.light(0);
        due("as without blanks", x.lightAt(2, 1), 14);
    }

    // ---------------------------------------------------------------- the tape

    /** "Twenty bytes more come to the TAPE .. NONE: more than 120." */
    private static void tape() {
        int four = 0x61616161;
        for (int before = 99; before <= 102; before++) {
            FlowerPots x = new FlowerPots();
            Checks.write(x, "a".repeat(before));
            int want = before + 20 > 120 ? NONE : before + 20;
            due(before + " and twenty", x.feed(four, four, four, four, four), want);
            due("how many are there", x.count(10), want == NONE ? before : want);
        }
        FlowerPots x = new FlowerPots();
        Checks.write(x, "y:1" + "+1".repeat(58));
        due("119 and two", x.feed(0, 0, 0, 0, ';' << 8 | 'y'), NONE);
        due("119 still", x.count(10), 119);
        due("and what they were", x.fault(3), NONE);
        due("119 and one", x.feed(0, 0, 0, 0, ';'), 120);
        due("the last one was taken", x.fault(3), 120);
        due("a full tape and nothing", x.feed(0, 0, 0, 0, 0), 120);
        due("a full tape and one", x.feed(0, 0, 1, 0, 0), NONE);
        due("a full tape and twenty", x.feed(-1, -1, -1, -1, -1), NONE);
        due("120 still", x.count(10), 120);
        due("and what they were", x.fault(3), 120);
        // "(of each number the highest first; bytes of 0 are left out)"
        int[] shifts = {24, 16, 8, 0};
        for (int number = 0; number < 5; number++) {
            for (int shift : shifts) {
                FlowerPots y = new FlowerPots();
                int[] five = new int[5];
                five[number] = 'h' << shift;
                due("one byte", y.feed(five[0], five[1], five[2], five[3], five[4]), 1);
                due("it is a word", y.text(2), 0);
            }
        }
        FlowerPots z = new FlowerPots();
        due("in their order", z.feed('y' << 24 | ':', '9' << 16 | '+' << 8, '8' << 8, '*' << 24 | '7', '-' << 16), 8);
        due("it ends too early", z.fault(3), 8);
        z.feed('1', 0, 0, 0, 0);
        z.text(3);
        Checks.text(z, 0, "n2");
        z.light(0);
        due("9+8*7-1", z.lightAt(0, 1), 64);
        due("the highest byte of all", z.feed(0xFF000000, 0, 0, 0, 0), 1);
        due("the least byte of all", z.feed(1, 0, 0, 0, 0), 2);
    }

    /** "The TAPE has its first n bytes alone. False: n." */
    private static void tapeEnds() {
        FlowerPots x = new FlowerPots();
        due("an empty tape: end(0)", x.end(0), true);
        due("an empty tape: end(1)", x.end(1), false);
        due("an empty tape: end(-1)", x.end(-1), false);
        Checks.write(x, "abcd");
        due("end(5)", x.end(5), false);
        due("end(-1)", x.end(-1), false);
        due("end(MAX)", x.end(Integer.MAX_VALUE), false);
        due("end(MIN)", x.end(Integer.MIN_VALUE), false);
        due("four still", x.count(10), 4);
        due("end(4)", x.end(4), true);
        due("four still", x.count(10), 4);
        due("end(3)", x.end(3), true);
        due("three", x.count(10), 3);
        due("end(4) behind it", x.end(4), false);
        Checks.add(x, "=");
        due("what follows comes behind the three", x.fault(2), 3);
        x.end(0);
        Checks.write(x, "a".repeat(120));
        due("a full tape: end(121)", x.end(121), false);
        due("a full tape: end(120)", x.end(120), true);
        due("a full tape: end(119)", x.end(119), true);
        due("one more fits again", Checks.add(x, "b"), 120);
    }

    /** "NONE: none. -2: no such sort." */
    private static void faultSorts() {
        FlowerPots x = new FlowerPots();
        for (int sort = 0; sort <= 3; sort++) {
            due("an empty tape, sort " + sort, x.fault(sort), 0);
        }
        int[] none = {-1, 4, -2, Integer.MIN_VALUE, Integer.MAX_VALUE};
        for (int sort : none) {
            due("no such sort " + sort, x.fault(sort), -2);
            due("no such sort " + sort, x.text(sort), NONE);
        }
        String[] texts = {"n2", "a=..", "a", "y:0"};
        for (int text = 0; text < 4; text++) {
            Checks.write(x, texts[text]);
            for (int sort = 0; sort <= 3; sort++) {
                int want = sort == text ? NONE : sort == 2 && text == 1 || sort == 1 && text == 2 ? 1 : 0;
                due(texts[text] + " as sort " + sort, x.fault(sort), want);
            }
            due("asking leaves the tape", x.count(10), texts[text].length());
        }
    }

    // ---------------------------------------------------------------- texts

    /** "No SILL." */
    private static void newObject() {
        FlowerPots x = new FlowerPots();
        Checks.text(x, 1, "a=..");
        Checks.text(x, 2, "a");
        Checks.text(x, 3, "y:1");
        Checks.noSuchPlace("at(0)", x, 0);
        due("lightAt", x.lightAt(0, 1), HIDDEN);
        due("light(0)", x.light(0), false);
        due("light(NONE)", x.light(NONE), false);
        due("put", x.put(0, 1), NONE);
        due("take", x.take(0), NONE);
        due("move", x.move(0, 1), NONE);
        due("evening", x.evening(0), HIDDEN);
        due("undo", x.undo(), NONE);
        due("says", x.says(0, 0), HIDDEN);
        due("between", x.between(0, 0), NONE);
        due("nearest", x.nearest(0, 0, false, 0), NONE);
        due("nearest right", x.nearest(0, 0, true, 1), NONE);
        due("sayable", x.sayable(0), NONE);
        due("word", x.word(0, 0, 0), NONE);
        due("soonest", x.soonest(0, 0), NONE);
        due("aunt", x.aunt(0, 0, 0), HIDDEN);
        due("safe", x.safe(0, 0, NONE), NONE);
        due("gap", x.gap(0), NONE);
        due("read", x.read(0, 0), HIDDEN);
        due("both", x.both(0, 0, 0, 0, 0), NONE);
        due("see", x.see(1, 0, 0), NONE);
        due("ways", x.ways(1), NONE);
        due("likely", x.likely(0, 1, 1, 0), NONE);
        due("tell", x.tell(0, 0), NONE);
        due("agree", x.agree(), NONE);
        due("apart", x.apart(), NONE);
        due("frost", x.frost(1), NONE);
        due("drawn", x.drawn(1, 0), NONE);
        due("diary", x.diary(0), NONE);
        due("image", x.image(), NONE);
        due("back", x.back(), NONE);
        for (int what = 0; what <= 13; what++) {
            due("count(" + what + ")", x.count(what), what >= 7 && what <= 9 ? 1 : 0);
        }
        due("count(-1)", x.count(-1), HIDDEN);
        due("count(14)", x.count(14), HIDDEN);
        due("the first sill", Checks.text(x, 0, "n2"), 2);
        due("nothing was done ahead of it", x.count(11) + x.count(12) + x.count(13) + x.count(5), 0);
        due("at(0)", x.at(0), 0);
    }

    /** "NONE: a FAULT, no such sort": the TAPE and all else stay. */
    private static void textRefused() {
        String[] faulty = {"n6", "a=.", "ai", "y:"};
        for (int sort = 0; sort < 4; sort++) {
            FlowerPots x = Checks.made("n3r1w0d5", "a=r..");
            x.put(0, 1);
            Checks.write(x, faulty[sort]);
            due("a fault, sort " + sort, x.text(sort), NONE);
            due("the tape stays", x.count(10), faulty[sort].length());
            due("books, words, lights stay", x.count(7) * 100 + x.count(8) * 10 + x.count(9), 100);
            due("the sill stays", x.count(0) * 1000 + x.count(6), 3100);
            due("what it says stays", x.says(0, 100), 0);
            x.end(0);
            due("an empty tape, sort " + sort, x.text(sort), NONE);
        }
    }

    /** "BOOKS (3 at most)", "WORDS (4 at most)", "LIGHTS (4 at most)": "there are so many" */
    private static void textLimits() {
        String[] texts = {"", "a=??", "a", "y:1"};
        int[] most = {0, 3, 4, 4};
        for (int sort = 1; sort <= 3; sort++) {
            FlowerPots x = new FlowerPots();
            for (int number = 0; number < most[sort]; number++) {
                if (number == 1) {
                    Checks.text(x, 0, "n3");
                }
                due("its number", Checks.text(x, sort, texts[sort]), number);
                due("the tape is empty then", x.count(10), 0);
                due("how many", x.count(6 + sort), number + 1);
            }
            due("one more, sort " + sort, Checks.text(x, sort, texts[sort]), NONE);
            due("its tape stays", x.count(10), texts[sort].length());
            due("how many still", x.count(6 + sort), most[sort]);
            Checks.text(x, 0, "n3");
            due("one more on another sill", Checks.text(x, sort, texts[sort]), NONE);
            for (int other = 1; other <= 3; other++) {
                if (other != sort) {
                    due("others have room", Checks.text(x, other, texts[other]), 0);
                }
            }
        }
    }

    /** "the SILL (all that was of another one is gone but BOOKS, WORDS, LIGHTS; none holds)" */
    private static void textOfSills() {
        FlowerPots x = new FlowerPots();
        for (int places = 2; places <= 5; places++) {
            due("sills without a limit", Checks.text(x, 0, "n" + places), places);
        }
        Checks.text(x, 1, "a=1");
        due("a refused book leaves its tape", x.count(10), 3);
        Checks.text(x, 1, "a=r????");
        Checks.text(x, 2, "a");
        Checks.text(x, 3, "y:9");
        x.light(0);
        x.put(4, 1);
        x.evening(0);
        x.put(3, 2);
        x.see(1, 4, 1);
        x.tell(1, 0);
        x.image();
        x.frost(2);
        x.take(4);
        due("a sill like the one ahead", Checks.text(x, 0, "n5"), 5);
        int[] wants = {5, 2, 2, 2, 2, 0, 0, 1, 1, 1, 0, 0, 0, 0};
        for (int what = 0; what < wants.length; what++) {
            due("count(" + what + ")", x.count(what), wants[what]);
        }
        due("no act", x.undo(), NONE);
        due("no diary", x.diary(0), NONE);
        due("no image", x.back(), NONE);
        due("no light holds", x.lightAt(0, 1), 0);
        due("nothing stands", x.at(4), 0);
        due("nothing seen", x.ways(1), Checks.made("n5").ways(1));
        due("nothing told", x.apart(), 0);
        x.see(2, 0, 2);
        FlowerPots fresh = Checks.made("n5");
        fresh.see(2, 0, 2);
        due("seen on this sill", x.ways(2), fresh.ways(2));
        x.tell(10, 1);
        x.tell(10000, 2);
        due("told on this sill", x.apart(), 1);
        due("told on this sill", x.agree(), 0);
        Checks.noSuchPlace("five places", x, 5);
        Checks.text(x, 0, "n2r1w1");
        Checks.noSuchPlace("two places", x, 2);
        due("roads of two places", x.between(0, 12), 2);
        due("roads of two places", x.between(12, 21), 3);
        due("no such road", x.between(0, 22), NONE);
        Checks.text(x, 0, "n5r5w5");
        due("roads of five places and more pots", x.between(0, 22), 2);
        due("roads of five places and more pots", x.between(0, 22222), 5);
        due("roads of five places and more pots", x.between(12, 11111), 5);
    }

    /** A SILL behind another one, larger or smaller, answers as on a new object. */
    private static void sillsBehindSills() {
        String[] sills = {"n2r1w0d1", "n3r1w2d2", "n5r3w4d5", "n4r5w1d3", "n5r0w2d1"};
        for (String one : sills) {
            for (String other : sills) {
                FlowerPots x = lived(one);
                due("text(0)", Checks.text(x, 0, other), other.charAt(1) - '0');
                FlowerPots y = Checks.made(other, "h=.w;c=ww;a=?r", "a=????w;h=r.", "b=.....;h=??.w?");
                Checks.text(y, 2, "bh");
                Checks.text(y, 3, "y:d+1-p*s");
                due(other + " behind " + one, answers(x).equals(answers(y)), true);
            }
        }
    }

    private static FlowerPots lived(String sill) {
        FlowerPots x = Checks.made(sill, "h=.w;c=ww;a=?r", "a=????w;h=r.", "b=.....;h=??.w?");
        Checks.text(x, 2, "bh");
        Checks.text(x, 3, "y:d+1-p*s");
        x.light(0);
        x.see(6, 1, 1);
        answers(x);
        x.image();
        x.drawn(4, 1);
        x.put(0, 1);
        x.see(2, x.count(0) - 1, 1);
        x.see(1, 0, 2);
        x.tell(10, 7);
        return x;
    }

    /** What the three books, the word and the light make of a sill on which nothing was done yet. */
    private static String answers(FlowerPots x) {
        StringBuilder all = new StringBuilder();
        x.light(0);
        x.put(1, 1);
        x.see(2, 0, 2);
        x.tell(1, 2);
        x.tell(12, 3);
        for (int book = 0; book < 3; book++) {
            all.append(x.sayable(book)).append(' ').append(x.gap(book)).append(' ');
            all.append(x.word(book, 0, 0)).append(' ').append(x.soonest(book, 0)).append(' ');
            for (int letter = 0; letter <= 7; letter += letter == 0 ? 2 : 5) {
                all.append(x.nearest(book, letter, true, 0)).append(' ').append(x.nearest(book, letter, false, 1));
                all.append(' ').append(x.safe(book, letter, NONE)).append(' ').append(x.aunt(book, letter, 0));
                all.append(' ').append(x.likely(book, 2, 1, letter)).append(' ');
                all.append(x.both(book, letter, 2 - book, NONE, 1)).append(' ');
            }
            for (int row : new int[] {0, 2, 20, 102, 20010}) {
                all.append(x.says(book, row)).append(' ').append(x.read(book, row)).append(' ');
                all.append(x.between(row, 0)).append(' ');
            }
        }
        all.append(x.ways(3)).append(' ').append(x.agree()).append(' ').append(x.apart());
        for (int what = 0; what < 14; what++) {
            all.append(' ').append(x.count(what));
        }
        return all.toString();
    }

    /** "An object is used for at most 512 calls after it has been made" */
    private static void lastCall() {
        FlowerPots x = new FlowerPots();
        x.feed('n' << 24 | '5' << 16, 0, 0, 0, 0);
        x.text(0);
        for (int call = 3; call <= 509; call += 3) {
            x.put(call % 5, 1 + call % 2);
            x.take(call % 5);
            x.drawn(1, call);
        }
        due("the 510th call", x.count(0), 5);
        due("the 511th call", x.count(3), 2);
        due("the 512th call", x.count(5), 60);
    }
}
