/** Each promise of the document: ordinary inputs, the edges that it names, and wrong inputs. */
public final class PromisesTest {
    private static final int NONE = FlowerPots.NONE;
    private static final int HIDDEN = FlowerPots.HIDDEN;
    private static final String SILL = "n3r1w1d2";
    private static final String BOOK = "a=r..;b=.w?;c=w?r";

    private PromisesTest() {
    }

    public static void main(String[] args) {
        textPromises();
        standingPromises();
        askingPromises();
        auntPromises();
        factPromises();
        dayPromises();
        Checks.end("PromisesTest");
    }

    private static void due(String what, long got, long want) {
        Checks.due(what, got, want);
    }

    private static void due(String what, boolean got, boolean want) {
        Checks.due(what, got, want);
    }

    private static FlowerPots small() {
        return Checks.made(SILL, BOOK);
    }

    private static void textPromises() {
        promise01NewObject();
        promise02Feed();
        promise03End();
        promise04FaultOfSills();
        promise04FaultOfBooks();
        promise04FaultOfWords();
        promise04FaultOfLights();
        promise04FaultOfDepths();
        promise05Text();
        promise05TextOfASecondSill();
    }

    private static void promise01NewObject() {
        FlowerPots x = new FlowerPots();
        for (int what = 0; what <= 13; what++) {
            due("1: count(" + what + ")", x.count(what), 0);
        }
        Checks.noSuchPlace("1: at(0)", x, 0);
        due("1: undo", x.undo(), NONE);
        due("1: back", x.back(), NONE);
        due("1: image", x.image(), NONE);
        due("1: diary(0)", x.diary(0), NONE);
        due("1: lightAt", x.lightAt(0, 1), HIDDEN);
        due("1: light", x.light(NONE), false);
        due("1: NONE", FlowerPots.NONE, -1);
        due("1: HIDDEN", FlowerPots.HIDDEN, -1000000);
    }

    private static void promise02Feed() {
        FlowerPots x = new FlowerPots();
        due("2: nothing", x.feed(0, 0, 0, 0, 0), 0);
        due("2: the highest first", x.feed('n' << 24 | '3' << 16, 0, 0, 0, 0), 2);
        due("2: it reads n3", x.fault(0), NONE);
        due("2: zeros are left out", x.feed('r', 0, '1' << 8, 0, 'w'), 5);
        due("2: as n3r1w it ends too early", x.fault(0), 5);
        due("2: bytes above 127", x.feed(0x80FF0000, 0, 0, 0, 0), 7);
        x.end(0);
        int twenty = 'a' * 0x01010101;
        for (int i = 1; i <= 6; i++) {
            due("2: twenty more", x.feed(twenty, twenty, twenty, twenty, twenty), 20 * i);
        }
        due("2: 121 are refused", x.feed('a', 0, 0, 0, 0), NONE);
        due("2: nothing more fits", x.feed(0, 0, 0, 0, 0), 120);
        x.end(110);
        due("2: eleven are refused", x.feed(twenty, twenty, 'a' * 0x010101, 0, 0), NONE);
        due("2: a refused feed changes nothing", x.count(10), 110);
        due("2: ten fit", x.feed(twenty, twenty, 'a' * 0x0101, 0, 0), 120);
    }

    private static void promise03End() {
        FlowerPots x = new FlowerPots();
        due("3: nothing of nothing", x.end(0), true);
        due("3: one of nothing", x.end(1), false);
        Checks.write(x, "n3r9");
        due("3: fewer than none", x.end(-1), false);
        due("3: more than there are", x.end(5), false);
        due("3: nothing was changed", x.count(10), 4);
        due("3: all", x.end(4), true);
        due("3: the first two", x.end(2), true);
        due("3: two are left", x.count(10), 2);
        due("3: the first ones", x.fault(0), NONE);
        due("3: those behind are gone", x.end(3), false);
    }

    private static void sills(int want, String... texts) {
        faults(0, want, texts);
    }

    private static void faults(int sort, int want, String... texts) {
        for (String text : texts) {
            due("4: fault(" + sort + ") of '" + text + "'", Checks.fault(sort, text), want);
        }
    }

    private static void promise04FaultOfSills() {
        sills(NONE, "n2", "n5", "n3r0", "n3r5w5d5", "n3d1w0r0", " n 3 w 4 ", "n2d5r1");
        sills(0, "", "3", "r2", "N3", "d1n3");
        sills(1, "n", "n1", "n6", "nr", " ", "n0r1");
        sills(2, "n3n", "n33", "n3x", "n3R1", "n3;", "n3\u00e9");
        sills(3, "n3r", "n3r6", "n3d0", "n3d6", "n3w6", "n3w-");
        sills(4, "n3r1r", "n3r12", "n3r1n", "n3d5d1");
        sills(8, "n3r1w1d1r", "n3r1w1d15");
        sills(3, "n3 4", "n3 n", " n 9", " n ");
        sills(4, "n3 r", " n 44");
        due("4: no such sort", new FlowerPots().fault(-1), -2);
        due("4: no such sort", new FlowerPots().fault(4), -2);
    }

    private static void promise04FaultOfBooks() {
        faults(1, NONE, "a=..", "h=rw?.r", "a=rr;a=ww", " a = r w ; b = . ? ",
            "a=..;b=..;c=..;d=..;e=..;f=..;g=..;h=..");
        faults(1, 0, "", "i=..", "=..", "A=..", ";");
        faults(1, 1, "a", "aa=", "a;");
        faults(1, 2, "a=", "a=x", "a=;");
        faults(1, 3, "a=.", "a=.;", "a=.1");
        faults(1, 7, "a=.....r", "a=.....?");
        faults(1, 6, "a=...;", "a=.. ;i=..", "a=..; =");
        faults(1, 8, "a=..;b=.", "a=..;b=.;", "a=..;b=.x");
        faults(1, 9, "a=..;b=...", "a=..;b=..b");
        faults(1, 39, "a=..;b=..;c=..;d=..;e=..;f=..;g=..;h=..;", "a=..;b=..;c=..;d=..;e=..;f=..;g=..;h=..;a");
    }

    private static void promise04FaultOfWords() {
        faults(2, NONE, "a", "h", "abcdefgh", " a b ", "aaaaaaaa ");
        faults(2, 0, "", "i", "A", "1");
        faults(2, 1, "ai", "a;", " ");
        faults(2, 8, "abcdefgha", "abcdefgh;");
        faults(2, 9, "abcdefgh a");
    }

    private static void promise04FaultOfLights() {
        faults(3, NONE, "y:0", "y:p", "y:1234", "y:[p+1]*2", "y:p=1?2", "y:p<1&d>2|s=1?n;y:0", "y:!p=1?0",
            "y:(p=1)?0", "y:!(p=1|d=2)&n>2?0", " y : 12 + 3 ", "y:[p]=1?0", "y:0;y:0;y:0;y:0;y:0;y:0;y:0;y:0;y:0");
        faults(3, 0, "", "x:1", ":");
        faults(3, 1, "y", "y1", "y;");
        faults(3, 2, "y:", "y:x", "y:?", "y:-1", "y:;", "y:)", "y:w");
        faults(3, 3, "y:p?", "y:pp", "y:1)", "y:1]", "y:p&", "y:p|", "y:(", "y:[", "y:!", "y:p:", "y:p!", "y:[)");
        faults(3, 4, "y:p=", "y:p=?", "y:p+", "y:p+?", "y:0;", "y:(p)?", "y:1 2", "y:p=!", "y:p=(", "y:0;x");
        faults(3, 5, "y:p=1", "y:p=1;", "y:p=1=", "y:p=1<", "y:p=1)", "y:(p=", "y:[p+");
        faults(3, 6, "y:12345", "y:p=1?", "y:(p=1", "y:p=1?!", "y:p=1?(", "y:p=1&");
        faults(3, 7, "y:p=1?0=", "y:p=1?0<1", "y:p=1?0?", "y:(p=1)", "y:(p=1)+", "y:(p=1)=", "y:p=1?0p");
        faults(3, 8, "y:0000+1?", "y:(p=1)?");
    }

    private static void promise04FaultOfDepths() {
        faults(3, NONE, "y:[[[[[[1]]]]]]", "y:!!!!!!p=1?0", "y:((((((p=1))))))?0", "y:!(!(!(1=1)))?0",
            "y:((((([1]=1)))))?0", "y:!p=1&!p=1&!p=1&!p=1&!p=1&!p=1&!p=1?[1]+[1]");
        faults(3, 8, "y:[[[[[[[1", "y:!!!!!!!p", "y:(((((((p", "y:!(!(!(!", "y:!(!(!([", "y:((((((!", "y:(((((([");
        faults(3, 10, "y:((((((p=[", "y:!!!!!!p=[");
        faults(3, NONE, "y:p=1?[[[[[[1]]]]]]", "y:p=1?1;y:[[[[[[1]]]]]]");
        faults(3, 12, "y:p=1?[[[[[[[1]]]]]]]");
    }

    private static void promise05Text() {
        FlowerPots x = new FlowerPots();
        due("5: a faulty text", Checks.text(x, 0, "n3r"), NONE);
        due("5: the tape stays", x.count(10), 3);
        due("5: no such sort", x.text(-1), NONE);
        due("5: no such sort", x.text(4), NONE);
        due("5: five places", Checks.text(x, 0, "n5"), 5);
        due("5: the tape is empty", x.count(10), 0);
        due("5: two red ones", x.count(1), 2);
        due("5: two white ones", x.count(2), 2);
        due("5: two moves a day", x.count(3), 2);
        for (int i = 0; i < 3; i++) {
            due("5: a book", Checks.text(x, 1, "a=" + "rw".charAt(i % 2) + "?"), i);
        }
        due("5: a fourth book", Checks.text(x, 1, "a=??"), NONE);
        due("5: its tape stays", x.count(10), 4);
        for (int i = 0; i < 4; i++) {
            due("5: a word", Checks.text(x, 2, "a" + "bcde".charAt(i)), i);
            due("5: a light", Checks.text(x, 3, "y:" + i), i);
        }
        due("5: a fifth word", Checks.text(x, 2, "a"), NONE);
        due("5: a fifth light", Checks.text(x, 3, "y:1"), NONE);
        due("5: books, words, lights", x.count(7) * 100 + x.count(8) * 10 + x.count(9), 344);
        due("5: what stands at first", x.count(6), 0);
        due("5: books are as they were told", x.says(1, 22000), 0);
        due("5: books are as they were told", x.says(1, 12000), NONE);
        due("5: fewer signs than places: nothing stands there", x.says(0, 11000), 0);
        due("5: fewer signs than places: nothing stands there", x.says(0, 11001), NONE);
        FlowerPots early = new FlowerPots();
        due("5: a book without a sill", Checks.text(early, 1, "a=r????"), 0);
        due("5: the sill behind it", Checks.text(early, 0, "n2"), 2);
        due("5: signs beyond the places are not looked at", early.says(0, 10), 0);
    }

    private static void promise05TextOfASecondSill() {
        FlowerPots x = small();
        Checks.text(x, 2, "ab");
        Checks.text(x, 3, "y:p");
        x.light(0);
        x.image();
        x.put(0, 1);
        x.evening(0);
        x.see(1, 0, 1);
        x.tell(100, 0);
        due("5: another sill", Checks.text(x, 0, "n2r0w3d5"), 2);
        due("5: what stood is gone", x.count(6), 0);
        due("5: the day is gone", x.count(5), 0);
        due("5: the diary is gone", x.diary(0), NONE);
        due("5: the acts are gone", x.count(11), 0);
        due("5: seen is gone", x.count(12), 0);
        due("5: told is gone", x.count(13), 0);
        due("5: the image is gone", x.back(), NONE);
        due("5: no light holds", x.lightAt(1, 1), 0);
        due("5: books stay", x.count(7), 1);
        due("5: words stay", x.count(8), 1);
        due("5: lights stay", x.light(0), true);
        due("5: pots", x.count(1) * 100 + x.count(2) * 10 + x.count(3), 35);
        due("5: moves left", x.count(4), 5);
        due("5: the book on two places", x.says(0, 2), 1);
        due("5: roads are new", x.between(20, 2), 1);
        x.tell(2, 1);
        due("5: what was told of the other sill does not count", x.agree(), 1);
        due("5: a refused sill", Checks.text(x, 0, "n7"), NONE);
        due("5: changes nothing", x.count(0), 2);
    }

    // ---------------------------------------------------------------- what stands

    private static void standingPromises() {
        promise06At();
        promise07LightAt();
        promise07LightArithmetic();
        promise08Light();
        promise09Put();
        promise10Take();
        promise11Move();
        promise12Evening();
        promise13Undo();
    }

    private static void promise06At() {
        FlowerPots x = Checks.made("n3d5");
        x.put(0, 2);
        x.put(2, 1);
        due("6: at(0)", x.at(0), 2);
        due("6: at(1)", x.at(1), 0);
        due("6: at(2)", x.at(2), 1);
        Checks.noSuchPlace("6: at(-1)", x, -1);
        Checks.noSuchPlace("6: at(3)", x, 3);
        Checks.noSuchPlace("6: at(MIN)", x, Integer.MIN_VALUE);
    }

    private static void promise07LightAt() {
        FlowerPots x = small();
        due("7: no light holds", x.lightAt(2, 1), 0);
        Checks.text(x, 3, "y:p*1000+d*100+s*10+n");
        due("7: not before it holds", x.lightAt(2, 1), 0);
        x.light(0);
        due("7: place, day, sort, places", x.lightAt(2, 1), 2013);
        due("7: the other sort", x.lightAt(0, 2), 23);
        x.evening(0);
        due("7: the next day", x.lightAt(1, 2), 1123);
        x.undo();
        due("7: the day before", x.lightAt(1, 2), 1023);
        due("7: no such place", x.lightAt(3, 1), HIDDEN);
        due("7: no such place", x.lightAt(-1, 1), HIDDEN);
        due("7: no such sort", x.lightAt(0, 0), HIDDEN);
        due("7: no such sort", x.lightAt(0, 3), HIDDEN);
        due("7: no sill", new FlowerPots().lightAt(0, 1), HIDDEN);
    }

    private static void worth(String light, int want) {
        FlowerPots x = Checks.made("n5");
        Checks.text(x, 3, light);
        x.light(0);
        due("7: worth of " + light, x.lightAt(3, 2), want);
    }

    private static void promise07LightArithmetic() {
        worth("y:p", 3);
        worth("y:1+2*3", 7);
        worth("y:[1+2]*3", 9);
        worth("y:9-3-2", 4);
        worth("y:9-[3-2]", 8);
        worth("y:24/4/3", 2);
        worth("y:7/2*2", 6);
        worth("y:[0-7]/2", -3);
        worth("y:7/[0-2]", -3);
        worth("y:7/0", 0);
        worth("y:5+7/[p-3]", 5);
        worth("y:9999*9999", 1000000);
        worth("y:0-9999*9999", -1000000);
        worth("y:0-9999*9999-1", -1000000);
        worth("y:9999*9999*9999/1000", 1000);
        worth("y:9999*9999+1-1", 999999);
        worth("y:0007", 7);
        worth("y:d", 0);
        worth("y:p=3?7;y:8", 7);
        worth("y:p=2?7;y:8", 8);
        worth("y:p=2?7", 0);
        worth("y:p=3?1;y:p=3?2;y:3", 1);
        worth("y:1;y:2", 1);
        worth("y:p>2&p<4?1", 1);
        worth("y:p>3|p<3?1;y:2", 2);
        worth("y:p=3|p=1&p=2?1;y:2", 1);
        worth("y:(p=3|p=1)&p=2?1;y:2", 2);
        worth("y:!p=3?1;y:2", 2);
        worth("y:!p=2&p=3?1;y:2", 1);
        worth("y:!(p=2|p=3)?1;y:2", 2);
        worth("y:!!p=3?1;y:2", 1);
        worth("y:p+1=s*2?1;y:2", 1);
        worth("y:p>3?1;y:p<3?2;y:5", 5);
    }

    private static void promise08Light() {
        FlowerPots x = Checks.made("n3");
        due("8: none", x.light(NONE), true);
        due("8: no such one", x.light(0), false);
        Checks.text(x, 3, "y:5");
        Checks.text(x, 3, "y:6");
        due("8: the second one", x.light(1), true);
        due("8: it holds", x.lightAt(0, 1), 6);
        due("8: no such one", x.light(2), false);
        due("8: no such one", x.light(-2), false);
        due("8: it still holds", x.lightAt(0, 1), 6);
        due("8: the first one", x.light(0), true);
        due("8: it holds", x.lightAt(0, 1), 5);
        due("8: none", x.light(NONE), true);
        due("8: none holds", x.lightAt(0, 1), 0);
        due("8: is no act", x.count(11), 0);
        FlowerPots without = new FlowerPots();
        Checks.text(without, 3, "y:5");
        due("8: no sill", without.light(0), false);
    }

    private static void promise09Put() {
        FlowerPots x = Checks.made("n3r1w2d3");
        due("9: no such place", x.put(3, 1), NONE);
        due("9: no such place", x.put(-1, 1), NONE);
        due("9: no such sort", x.put(0, 0), NONE);
        due("9: no such sort", x.put(0, 3), NONE);
        due("9: refused calls change nothing", x.count(4) * 10 + x.count(11), 30);
        due("9: a red one", x.put(1, 1), 2);
        due("9: something stands there", x.put(1, 2), NONE);
        due("9: no red one is inside", x.put(0, 1), NONE);
        due("9: a white one", x.put(0, 2), 1);
        due("9: what stands", x.count(6), 210);
        due("9: another white one", x.put(2, 2), 0);
        x.undo();
        x.take(1);
        due("9: none left", x.put(2, 1), NONE);
        due("9: no sill", new FlowerPots().put(0, 1), NONE);
    }

    private static void promise10Take() {
        FlowerPots x = Checks.made("n2r1w0d3");
        due("10: nothing stands there", x.take(0), NONE);
        x.put(0, 1);
        due("10: no such place", x.take(-1), NONE);
        due("10: no such place", x.take(2), NONE);
        due("10: one is taken", x.take(0), 1);
        due("10: nothing stands", x.count(6), 0);
        due("10: it is inside again", x.put(1, 1), 0);
        due("10: none left", x.take(1), NONE);
        due("10: it still stands", x.count(6), 1);
        due("10: no sill", new FlowerPots().take(0), NONE);
    }

    private static void promise11Move() {
        FlowerPots x = Checks.made("n3r1w1d4");
        x.put(0, 1);
        x.put(1, 2);
        due("11: something stands there", x.move(0, 1), NONE);
        due("11: to where it is", x.move(0, 0), NONE);
        due("11: nothing stands here", x.move(2, 1), NONE);
        due("11: nothing stands here", x.move(2, 2), NONE);
        due("11: no such place", x.move(0, 3), NONE);
        due("11: no such place", x.move(3, 2), NONE);
        due("11: no such place", x.move(-1, 2), NONE);
        due("11: no such place", x.move(0, -1), NONE);
        due("11: a move", x.move(0, 2), 1);
        due("11: what stands", x.count(6), 21);
        due("11: back to the left", x.move(1, 0), 0);
        due("11: what stands", x.count(6), 201);
        due("11: none left", x.move(0, 1), NONE);
        due("11: none left, still", x.count(4), 0);
        due("11: nothing is changed", x.count(6), 201);
        due("11: no sill", new FlowerPots().move(0, 1), NONE);
    }

    private static void promise12Evening() {
        FlowerPots x = small();
        x.put(0, 1);
        due("12: no such book", x.evening(1), HIDDEN);
        due("12: no such book", x.evening(-1), HIDDEN);
        due("12: it is still the day", x.count(5), 0);
        due("12: what is said", x.evening(0), 0);
        due("12: the next day", x.count(5), 1);
        due("12: its moves", x.count(4), 2);
        due("12: what stands stays", x.count(6), 100);
        x.take(0);
        due("12: nothing is said", x.evening(0), NONE);
        for (int day = 2; day < 60; day++) {
            x.evening(0);
        }
        due("12: sixty evenings", x.count(5), 60);
        due("12: no more of them", x.evening(0), HIDDEN);
        due("12: the sixty-first day goes on", x.put(0, 1), 1);
        due("12: still day 60", x.count(5), 60);
        due("12: no sill", new FlowerPots().evening(0), HIDDEN);
    }

    private static void promise13Undo() {
        FlowerPots x = small();
        due("13: none", x.undo(), NONE);
        x.put(0, 1);
        x.move(0, 1);
        x.evening(0);
        x.take(1);
        due("13: four acts", x.count(11), 4);
        due("13: the taking", x.undo(), 3);
        due("13: what stands", x.count(6), 10);
        due("13: moves left", x.count(4), 2);
        due("13: the evening", x.undo(), 2);
        due("13: the day", x.count(5), 0);
        due("13: moves left of that day", x.count(4), 0);
        due("13: the diary", x.diary(0), NONE);
        due("13: the move", x.undo(), 1);
        due("13: what stands", x.count(6), 100);
        due("13: the putting", x.undo(), 0);
        due("13: what stands", x.count(6), 0);
        due("13: moves left", x.count(4), 2);
        due("13: none", x.undo(), NONE);
        for (int i = 0; i < 31; i++) {
            x.put(i % 2, 1);
            x.take(i % 2);
            x.evening(0);
        }
        x.put(2, 1);
        due("13: sixty at most", x.count(11), 60);
        due("13: the sixtieth", x.undo(), 59);
        for (int left = 58; left >= 0; left--) {
            due("13: of sixty", x.undo(), left);
            int moves = (34 + left) % 3;
            int day = (34 + left) / 3;
            due("13: moves left", x.count(4), 2 - moves);
            due("13: the row", x.count(6), moves != 1 ? 0 : day % 2 == 0 ? 100 : 10);
            due("13: the day", x.count(5), day);
        }
        due("13: the oldest ones are lost", x.undo(), NONE);
        due("13: the day behind which they lie", x.count(5), 11);
    }

    // ---------------------------------------------------------------- what rows say

    private static void askingPromises() {
        promise14Says();
        promise15Between();
        promise16Nearest();
        promise16NearestByLight();
        promise17Sayable();
        promise18Word();
        promise18WordOfSeveralWays();
        promise19Soonest();
    }

    private static void promise14Says() {
        FlowerPots x = small();
        due("14: a", x.says(0, 100), 0);
        due("14: b with whatever", x.says(0, 20), 1);
        due("14: b with whatever", x.says(0, 22), 1);
        due("14: c that can't stand", x.says(0, 211), 2);
        due("14: nothing", x.says(0, 0), NONE);
        due("14: a digit too high", x.says(0, 3), HIDDEN);
        due("14: a digit too high", x.says(0, 130), HIDDEN);
        due("14: too many digits", x.says(0, 1000), HIDDEN);
        due("14: below none", x.says(0, -1), HIDDEN);
        due("14: below none", x.says(0, Integer.MIN_VALUE), HIDDEN);
        due("14: far too many digits", x.says(0, Integer.MAX_VALUE), HIDDEN);
        due("14: no such book", x.says(1, 0), HIDDEN);
        due("14: no such book", x.says(-1, 0), HIDDEN);
        Checks.text(x, 1, "d=???;e=r..");
        due("14: the first clause that fits", x.says(1, 100), 3);
        FlowerPots without = new FlowerPots();
        Checks.text(without, 1, BOOK);
        due("14: no sill", without.says(0, 0), HIDDEN);
    }

    private static void promise15Between() {
        FlowerPots x = small();
        due("15: none", x.between(120, 120), 0);
        due("15: a move", x.between(100, 1), 1);
        due("15: one in, one out", x.between(100, 20), 2);
        due("15: two change places", x.between(120, 210), 3);
        due("15: it can't stand", x.between(110, 0), NONE);
        due("15: it can't stand", x.between(0, 22), NONE);
        due("15: no such one", x.between(0, 3), NONE);
        due("15: no such one", x.between(-1, 0), NONE);
        due("15: no such one", x.between(1000, 0), NONE);
        FlowerPots two = Checks.made("n2r2w2");
        due("15: a full sill", two.between(12, 21), 3);
        due("15: all others", two.between(11, 22), 4);
        FlowerPots five = Checks.made("n5r5w5");
        due("15: ten are the most", five.between(11111, 22222), 10);
        due("15: no sill", new FlowerPots().between(0, 0), NONE);
    }

    private static void promise16Nearest() {
        FlowerPots x = small();
        due("16: how many", x.nearest(0, 2, false, 0), 2);
        due("16: the row", x.nearest(0, 2, false, 1), 201);
        due("16: of several the least", x.nearest(0, 1, false, 1), 20);
        x.put(1, 2);
        due("16: what stands says it", x.nearest(0, 1, false, 0), 0);
        due("16: what stands says it", x.nearest(0, 1, false, 1), 20);
        due("16: more moves than are left", x.nearest(0, 2, false, 0), 2);
        due("16: it can't be said", x.nearest(0, 3, false, 0), NONE);
        due("16: no such letter", x.nearest(0, NONE, false, 0), NONE);
        due("16: no such letter", x.nearest(0, 8, false, 0), NONE);
        due("16: no such book", x.nearest(1, 0, false, 0), NONE);
        due("16: no such book", x.nearest(-1, 0, true, 0), NONE);
        due("16: no such half", x.nearest(0, 0, false, 2), NONE);
        due("16: no such half", x.nearest(0, 0, false, -1), NONE);
        due("16: no sill", new FlowerPots().nearest(0, 0, false, 0), NONE);
        FlowerPots scarce = Checks.made("n2r1w0", "a=rr;b=w?");
        due("16: it can't stand", scarce.nearest(0, 0, false, 0), NONE);
        due("16: no white ones", scarce.nearest(0, 1, false, 1), NONE);
    }

    private static void promise16NearestByLight() {
        FlowerPots x = small();
        x.put(2, 1);
        due("16: no light: all look right", x.nearest(0, 0, true, 0), 1);
        Checks.text(x, 3, "y:p");
        Checks.text(x, 3, "y:s=2?p;y:0");
        Checks.text(x, 3, "y:d=0?p;y:0-p");
        x.light(0);
        due("16: to less light: in and out", x.nearest(0, 0, true, 0), 2);
        due("16: by any moves", x.nearest(0, 0, false, 0), 1);
        due("16: the row", x.nearest(0, 0, true, 1), 100);
        x.light(1);
        due("16: as much light looks right", x.nearest(0, 0, true, 0), 1);
        x.light(2);
        due("16: of the day that is", x.nearest(0, 0, true, 0), 2);
        x.evening(0);
        due("16: the next day", x.nearest(0, 0, true, 0), 1);
        int[] lit = {5, 1, 3};
        for (int from = 0; from < 3; from++) {
            for (int to = 0; to < 3; to++) {
                FlowerPots z = Checks.made("n3r1w0d1", "a=r..;b=.r.;c=..r");
                Checks.text(z, 3, "y:p=0?5;y:p*2-1");
                z.light(0);
                z.put(from, 1);
                int want = from == to ? 0 : lit[to] >= lit[from] ? 1 : 2;
                due("16: from " + from + " to " + to, z.nearest(0, to, true, 0), want);
            }
        }
        FlowerPots y = Checks.made("n2r0w1d1", "a=.w;b=w.");
        Checks.text(y, 3, "y:s*[1-p]");
        y.light(0);
        y.put(0, 2);
        due("16: a white one to less light", y.nearest(0, 0, true, 0), 2);
        y.undo();
        y.put(1, 2);
        due("16: a white one to more light", y.nearest(0, 1, true, 0), 1);
    }

    private static void promise17Sayable() {
        FlowerPots x = small();
        due("17: all three", x.sayable(0), 7);
        Checks.text(x, 1, "h=??.;a=...");
        due("17: the second clause never", x.sayable(1), 128);
        Checks.text(x, 1, "a=rr.;b=www");
        due("17: none can stand", x.sayable(2), 0);
        due("17: no such book", x.sayable(3), NONE);
        due("17: no such book", x.sayable(-1), NONE);
        due("17: no sill", new FlowerPots().sayable(0), NONE);
    }

    private static int words(FlowerPots x, String... words) {
        int answer = NONE;
        for (String word : words) {
            answer = Checks.text(x, 2, word);
        }
        return answer;
    }

    private static void promise18Word() {
        FlowerPots x = small();
        words(x, "ab", "aaaaaaaa", "ac", "d");
        due("18: moves", x.word(0, 0, 0), 3);
        due("18: the first row", x.word(0, 0, 1), 100);
        due("18: staying costs nothing", x.word(0, 1, 0), 1);
        due("18: from a to c", x.word(0, 2, 0), 3);
        due("18: it can't be", x.word(0, 3, 0), NONE);
        due("18: no such half", x.word(0, 0, 2), NONE);
        due("18: no such half", x.word(0, 0, -1), NONE);
        due("18: no such word", x.word(0, 4, 0), NONE);
        due("18: no such word", x.word(0, -1, 0), NONE);
        due("18: no such book", x.word(1, 0, 0), NONE);
        due("18: no sill", new FlowerPots().word(0, 0, 0), NONE);
        x.put(1, 2);
        x.put(2, 1);
        due("18: no moves are left on the first day", x.word(0, 0, 0), NONE);
        x.evening(0);
        due("18: the next day", x.word(0, 0, 0), 4);
        FlowerPots slow = Checks.made("n3r1w1d1", BOOK);
        words(slow, "ab", "ba");
        due("18: a to b are two moves", slow.word(0, 0, 0), NONE);
        for (int day = 0; day < 60; day++) {
            x.evening(0);
        }
        due("18: days to come go on beyond sixty", x.word(0, 0, 0), 4);
    }

    private static void promise18WordOfSeveralWays() {
        FlowerPots x = Checks.made(SILL, "a=r..;a=.w.;b=rw.;c=...");
        words(x, "ab", "ba", "aba");
        due("18: the fewest moves", x.word(0, 0, 0), 2);
        due("18: by 100 or by 20: the least row", x.word(0, 0, 1), 20);
        due("18: b first", x.word(0, 1, 0), 3);
        due("18: b first", x.word(0, 1, 1), 120);
        due("18: there and back", x.word(0, 2, 0), 3);
        x.put(0, 1);
        due("18: what stands says a", x.word(0, 0, 0), 1);
        due("18: it stays", x.word(0, 0, 1), 100);
        due("18: moves by hand count", x.count(4), 1);
    }

    private static void promise19Soonest() {
        FlowerPots x = small();
        words(x, "ab", "c", "d", "aca");
        due("19: as at once", x.soonest(0, 0), 2);
        due("19: one letter", x.soonest(0, 1), 1);
        due("19: not at all", x.soonest(0, 2), NONE);
        due("19: three letters", x.soonest(0, 3), 3);
        due("19: no such word", x.soonest(0, 4), NONE);
        due("19: no such word", x.soonest(0, -1), NONE);
        due("19: no such book", x.soonest(1, 0), NONE);
        due("19: no sill", new FlowerPots().soonest(0, 0), NONE);
        FlowerPots slow = Checks.made("n3r1w1d1", BOOK, "a=r..;b=.w.;c=???");
        words(slow, "ab", "c", "a", "bb");
        due("19: a silent evening between", slow.soonest(0, 0), 3);
        due("19: silent evenings ahead", slow.soonest(0, 1), 2);
        due("19: all evenings between say c", slow.soonest(1, 0), NONE);
        slow.put(2, 1);
        due("19: none left on the first day", slow.soonest(0, 2), 2);
        due("19: words at once can't", slow.word(0, 2, 0), NONE);
        due("19: one letter twice", slow.soonest(0, 3), 3);
        for (int day = 0; day < 60; day++) {
            slow.evening(0);
        }
        due("19: days to come go on beyond sixty", slow.soonest(0, 0), 3);
        FlowerPots long60 = Checks.made("n5r5w5d1", "a=rrrrr;b=wwwww;c=.....");
        words(long60, "abababc", "abababcc");
        due("19: sixty days", long60.soonest(0, 0), 60);
        due("19: sixty-one days", long60.soonest(0, 1), NONE);
    }

    // ---------------------------------------------------------------- the aunt, slips

    private static void auntPromises() {
        promise20Aunt();
        promise21Safe();
        promise22Gap();
        promise23Read();
        promise24Both();
    }

    private static void promise20Aunt() {
        FlowerPots x = small();
        due("20: of how many", x.aunt(0, 0, 1), 7);
        due("20: a", x.aunt(0, 0, 0), 1);
        due("20: b", x.aunt(0, 1, 0), 1);
        due("20: c", x.aunt(0, 2, 0), 0);
        due("20: nothing", x.aunt(0, NONE, 0), 5);
        x.put(0, 1);
        x.put(1, 2);
        due("20: no move by hand is left, she has hers", x.aunt(0, 0, 1), 5);
        due("20: none of all moves", x.aunt(0, 1, 0), 2);
        due("20: no such letter", x.aunt(0, -2, 0), HIDDEN);
        due("20: no such letter", x.aunt(0, 8, 0), HIDDEN);
        due("20: no such book", x.aunt(1, 0, 0), HIDDEN);
        due("20: no such book", x.aunt(-1, 0, 1), HIDDEN);
        due("20: no such half", x.aunt(0, 0, 2), HIDDEN);
        due("20: no such half", x.aunt(0, 0, -1), HIDDEN);
        due("20: no sill", new FlowerPots().aunt(0, 0, 0), HIDDEN);
        due("20: pots of a sort are alike", Checks.made("n2r5w5", BOOK).aunt(0, 0, 1), 5);
    }

    private static void promise21Safe() {
        FlowerPots x = small();
        due("21: a", x.safe(0, 0, NONE), 1);
        due("21: the first one", x.safe(0, 0, 0), 100);
        due("21: no second one", x.safe(0, 0, 1), NONE);
        due("21: c none", x.safe(0, 2, NONE), 0);
        due("21: d none", x.safe(0, 3, NONE), 0);
        due("21: no such one", x.safe(0, 0, -2), NONE);
        due("21: no such letter", x.safe(0, NONE, NONE), NONE);
        due("21: no such letter", x.safe(0, 8, NONE), NONE);
        due("21: no such book", x.safe(1, 0, NONE), NONE);
        due("21: no sill", new FlowerPots().safe(0, 0, NONE), NONE);
        FlowerPots y = Checks.made("n2r1w1", "a=r?;b=ww");
        due("21: b can't stand", y.safe(0, 0, NONE), 2);
        due("21: rising", y.safe(0, 0, 0), 10);
        due("21: rising", y.safe(0, 0, 1), 12);
        due("21: no third one", y.safe(0, 0, 2), NONE);
    }

    private static void promise22Gap() {
        due("22: one move", small().gap(0), 1);
        FlowerPots x = Checks.made("n3r3w3", "a=rrr;b=www;c=r..", "a=rr.;a=.rr", "a=r..;b=.w.");
        due("22: six moves, or two", x.gap(0), 2);
        due("22: one letter alone", x.gap(1), NONE);
        due("22: two moves", x.gap(2), 2);
        due("22: no such book", x.gap(3), NONE);
        due("22: no such book", x.gap(-1), NONE);
        due("22: no sill", new FlowerPots().gap(0), NONE);
        FlowerPots scarce = Checks.made("n3r1w1", "a=rr.;b=r..");
        due("22: a can't stand", scarce.gap(0), NONE);
    }

    private static void promise23Read() {
        FlowerPots x = small();
        due("23: it says one itself", x.read(0, 100), 0);
        due("23: one move from a", x.read(0, 102), 0);
        due("23: a and b alike", x.read(0, 0), NONE);
        due("23: it can't stand", x.read(0, 110), HIDDEN);
        due("23: no such row", x.read(0, 3), HIDDEN);
        due("23: no such row", x.read(0, -1), HIDDEN);
        due("23: no such book", x.read(1, 0), HIDDEN);
        due("23: no sill", new FlowerPots().read(0, 0), HIDDEN);
        FlowerPots y = Checks.made("n2r1w0", "a=rr", "a=r.;a=.r");
        due("23: none can be said", y.read(0, 0), NONE);
        due("23: two rows of one letter", y.read(1, 0), 0);
    }

    private static void promise24Both() {
        FlowerPots x = small();
        Checks.text(x, 1, "b=r..;a=rw.");
        due("24: how many", x.both(0, 0, 1, 1, 0), 1);
        due("24: the row", x.both(0, 0, 1, 1, 1), 100);
        due("24: b and nothing", x.both(0, 1, 1, NONE, 0), 1);
        due("24: b and nothing", x.both(0, 1, 1, NONE, 1), 20);
        due("24: none", x.both(0, 0, 1, 0, 0), NONE);
        due("24: no such letter", x.both(0, NONE, 1, 0, 0), NONE);
        due("24: no such letter", x.both(0, 8, 1, 0, 0), NONE);
        due("24: no such second letter", x.both(0, 0, 1, -2, 0), NONE);
        due("24: no such second letter", x.both(0, 0, 1, 8, 0), NONE);
        due("24: no such book", x.both(2, 0, 1, 0, 0), NONE);
        due("24: no such book", x.both(0, 0, 2, 0, 0), NONE);
        due("24: no such book", x.both(0, 0, -1, 0, 0), NONE);
        due("24: no such half", x.both(0, 0, 1, 1, 2), NONE);
        due("24: no such half", x.both(0, 0, 1, 1, -1), NONE);
        due("24: no sill", new FlowerPots().both(0, 0, 0, 0, 0), NONE);
        x.put(0, 1);
        due("24: what stands", x.both(0, 0, 1, 1, 0), 0);
        Checks.text(x, 3, "y:p");
        x.light(0);
        x.move(0, 2);
        due("24: by any moves, whatever the light", x.both(0, 0, 1, 1, 0), 1);
    }

    // ---------------------------------------------------------------- seen and told

    private static void factPromises() {
        promise25See();
        promise26Ways();
        promise27Likely();
        promise28Tell();
        promise29Agree();
        promise30Apart();
    }

    private static void promise25See() {
        FlowerPots x = small();
        due("25: no such day", x.see(0, 0, 0), NONE);
        due("25: no such day", x.see(7, 0, 0), NONE);
        due("25: no such place", x.see(1, 3, 0), NONE);
        due("25: no such place", x.see(1, -1, 0), NONE);
        due("25: no such pot", x.see(1, 0, 3), NONE);
        due("25: no such pot", x.see(1, 0, -1), NONE);
        due("25: none yet", x.count(12), 0);
        for (int i = 1; i <= 12; i++) {
            due("25: how many", x.see(i % 6 + 1, i % 3, i % 3), i);
        }
        due("25: twelve", x.see(1, 0, 0), NONE);
        due("25: still twelve", x.count(12), 12);
        due("25: no sill", new FlowerPots().see(1, 0, 0), NONE);
    }

    private static void promise26Ways() {
        FlowerPots x = small();
        due("26: one day", x.ways(1), 13);
        due("26: out of bounds", x.ways(0), NONE);
        due("26: out of bounds", x.ways(7), NONE);
        due("26: out of bounds", x.ways(-1), NONE);
        x.see(1, 0, 1);
        due("26: a red one there", x.ways(1), 3);
        x.see(3, 0, 2);
        due("26: the third day is not asked", x.ways(1), 3);
        long three = x.ways(3);
        x.see(1, 1, 1);
        due("26: no second red one", x.ways(1), 0);
        due("26: nor on later days", x.ways(3), 0);
        due("26: three days", three > 3 && three < 3 * 13 * 13, true);
        FlowerPots y = Checks.made("n2r1w0d1");
        due("26: none, or two places", y.ways(1), 3);
        due("26: from any to any", y.ways(2), 9);
        y.put(0, 1);
        due("26: none left on the first day", y.ways(1), 1);
        due("26: the next day", y.ways(2), 3);
        FlowerPots all = Checks.made("n5r5w5d5");
        due("26: many", all.ways(6) > Integer.MAX_VALUE, true);
        due("26: no sill", new FlowerPots().ways(1), NONE);
        for (int day = 0; day < 60; day++) {
            y.drawn(1, day);
        }
        due("26: days to come go on beyond sixty", y.ways(2), 9);
    }

    private static void promise27Likely() {
        FlowerPots x = small();
        due("27: a", x.likely(0, 1, 1, 0), 1);
        due("27: nothing", x.likely(0, 1, 1, NONE), 13 - x.likely(0, 1, 1, 0) - x.likely(0, 1, 1, 1)
            - x.likely(0, 1, 1, 2));
        long sum = 0;
        for (int letter = NONE; letter <= 7; letter++) {
            sum += x.likely(0, 3, 2, letter);
        }
        due("27: all letters and nothing", sum, x.ways(3));
        x.see(1, 0, 1);
        due("27: of those that fit", x.likely(0, 1, 1, NONE), 2);
        due("27: b not so", x.likely(0, 1, 1, 1), 0);
        due("27: no such book", x.likely(1, 1, 1, 0), NONE);
        due("27: no such book", x.likely(-1, 1, 1, 0), NONE);
        due("27: days out of bounds", x.likely(0, 0, 1, 0), NONE);
        due("27: days out of bounds", x.likely(0, 7, 1, 0), NONE);
        due("27: no such day", x.likely(0, 2, 3, 0), NONE);
        due("27: no such day", x.likely(0, 2, 0, 0), NONE);
        due("27: no such letter", x.likely(0, 1, 1, -2), NONE);
        due("27: no such letter", x.likely(0, 1, 1, 8), NONE);
        due("27: no sill", new FlowerPots().likely(0, 1, 1, 0), NONE);
    }

    private static void promise28Tell() {
        FlowerPots x = small();
        due("28: no such letter", x.tell(0, NONE), NONE);
        due("28: no such letter", x.tell(0, 8), NONE);
        due("28: no such row", x.tell(3, 0), NONE);
        due("28: no such row", x.tell(-1, 0), NONE);
        due("28: no such row", x.tell(1000, 0), NONE);
        due("28: none yet", x.count(13), 0);
        for (int i = 1; i <= 12; i++) {
            due("28: how many", x.tell(222, 0), i);
        }
        due("28: twelve", x.tell(0, 0), NONE);
        due("28: still twelve", x.count(13), 12);
        due("28: no sill", new FlowerPots().tell(0, 0), NONE);
    }

    private static void promise29Agree() {
        FlowerPots x = Checks.made("n3", "a=r..;b=w..", "a=?..", "a=r??;c=w..");
        due("29: nothing told", x.agree(), 7);
        x.tell(100, 0);
        due("29: all say a", x.agree(), 7);
        x.tell(200, 1);
        due("29: one says b", x.agree(), 1);
        x.tell(111, 0);
        due("29: nothing is another answer", x.agree(), 0);
        FlowerPots y = Checks.made("n3");
        due("29: no books", y.agree(), 0);
        due("29: no sill", new FlowerPots().agree(), NONE);
        y.tell(0, 0);
        Checks.text(y, 1, "a=...");
        due("29: a book behind what was told", y.agree(), 1);
    }

    private static void promise30Apart() {
        FlowerPots x = small();
        due("30: nothing told", x.apart(), 0);
        x.tell(100, 0);
        due("30: one row", x.apart(), 0);
        x.tell(100, 0);
        x.tell(200, 0);
        due("30: one letter", x.apart(), 0);
        x.tell(120, 1);
        due("30: place 1 is bit 1", x.apart(), 2);
        x.tell(201, 2);
        due("30: two places", x.apart(), 6);
        x.tell(120, 2);
        due("30: alike rows", x.apart(), NONE);
        FlowerPots y = Checks.made("n5");
        y.tell(10000, 0);
        y.tell(1, 1);
        due("30: place 0 is bit 0, the least", y.apart(), 1);
        y.tell(10001, 2);
        due("30: the first and the last", y.apart(), 17);
        FlowerPots z = Checks.made("n3");
        z.tell(0, 0);
        z.tell(11, 1);
        z.tell(102, 2);
        due("30: place 2 alone, not places 0 and 1", z.apart(), 4);
        due("30: no sill", new FlowerPots().apart(), NONE);
    }

    // ---------------------------------------------------------------- frost, days, images

    private static void dayPromises() {
        promise31Frost();
        promise32Drawn();
        promise32DrawnDays();
        promise33Diary();
        promise34Image();
        promise35Back();
        promise36Count();
    }

    private static void promise31Frost() {
        FlowerPots x = Checks.made("n3r2w1", "a=rr?;b=w..");
        due("31: two red ones are enough for a", x.sayable(0), 3);
        due("31: two moves between", x.between(110, 0), 2);
        x.put(0, 1);
        due("31: one red one is left", x.frost(1), 1);
        due("31: pots", x.count(1), 1);
        due("31: none inside", x.frost(1), NONE);
        due("31: no act can be undone", x.undo(), NONE);
        due("31: what stands stays", x.count(6), 100);
        due("31: moves left stay", x.count(4), 1);
        due("31: a can't be said", x.sayable(0), 2);
        due("31: nor can its row stand", x.between(110, 0), NONE);
        due("31: the last white one", x.frost(2), 0);
        due("31: no white one", x.frost(2), NONE);
        due("31: no such sort", x.frost(0), NONE);
        due("31: no such sort", x.frost(3), NONE);
        x.take(0);
        due("31: a refused frost forgets no acts", x.frost(2), NONE);
        due("31: it can be undone", x.undo(), 0);
        due("31: no sill", new FlowerPots().frost(1), NONE);
    }

    private static void promise32Drawn() {
        FlowerPots x = small();
        due("32: out of bounds", x.drawn(0, 1), NONE);
        due("32: out of bounds", x.drawn(21, 1), NONE);
        due("32: out of bounds", x.drawn(-1, 1), NONE);
        x.put(0, 1);
        x.put(2, 2);
        due("32: the next day", x.drawn(1, 5), 1);
        due("32: no act can be undone", x.undo(), NONE);
        due("32: the moves of the next day", x.count(4), 2);
        due("32: twenty", x.drawn(20, 7), 21);
        x.drawn(20, 7);
        due("32: more than sixty", x.drawn(20, 7), NONE);
        due("32: nothing is changed", x.count(5), 41);
        due("32: sixty", x.drawn(19, 7), 60);
        due("32: no more", x.drawn(1, 7), NONE);
        due("32: nor by hand", x.evening(0), HIDDEN);
        due("32: no sill", new FlowerPots().drawn(1, 1), NONE);
    }

    /** The draws reckoned by hand: x becomes x * 6364136223846793005 + 1442695040888963407. */
    private static void promise32DrawnDays() {
        int[] rising = {0, 1, 2, 10, 20, 100, 200};
        for (long seed = -20; seed < 20; seed++) {
            FlowerPots x = small();
            long first = seed * 6364136223846793005L + 1442695040888963407L;
            int want = rising[(int) ((first >>> 33) % 7)];
            x.drawn(1, seed);
            due("32: the first draw of " + seed, x.count(6), want);
            due("32: its diary", x.diary(0), want);
            FlowerPots y = small();
            y.drawn(2, seed);
            FlowerPots z = small();
            z.drawn(1, seed);
            z.drawn(1, first);
            due("32: the second draw goes on", y.count(6), z.count(6));
        }
        FlowerPots x = Checks.made("n2r0w0");
        x.drawn(3, 9);
        due("32: no pots, no moves", x.count(6), 0);
    }

    private static void promise33Diary() {
        FlowerPots x = small();
        due("33: not yet", x.diary(0), NONE);
        x.put(0, 1);
        due("33: not before the evening", x.diary(0), NONE);
        x.evening(0);
        x.move(0, 2);
        x.evening(0);
        due("33: day 0", x.diary(0), 100);
        due("33: day 1", x.diary(1), 1);
        due("33: not yet", x.diary(2), NONE);
        due("33: no such day", x.diary(-1), NONE);
        x.undo();
        due("33: undone", x.diary(1), NONE);
        x.take(2);
        x.evening(0);
        due("33: another evening instead", x.diary(1), 0);
        due("33: no sill", new FlowerPots().diary(0), NONE);
    }

    private static void promise34Image() {
        FlowerPots x = small();
        due("34: day 0", x.image(), 0);
        x.put(0, 1);
        x.evening(0);
        due("34: instead of the one ahead", x.image(), 1);
        due("34: acts can still be undone", x.undo(), 1);
        due("34: the day", x.count(5), 0);
        due("34: back to the second one", x.back(), 1);
        due("34: no sill", new FlowerPots().image(), NONE);
    }

    private static void promise35Back() {
        FlowerPots x = small();
        due("35: no image", x.back(), NONE);
        x.put(0, 1);
        x.evening(0);
        x.put(1, 2);
        x.image();
        x.undo();
        x.undo();
        x.undo();
        x.put(2, 2);
        x.evening(0);
        x.evening(0);
        x.frost(1);
        due("35: the day", x.back(), 1);
        due("35: the row", x.count(6), 120);
        due("35: moves left", x.count(4), 1);
        due("35: pots", x.count(1), 1);
        due("35: the diary", x.diary(0), 100);
        due("35: no more of it", x.diary(1), NONE);
        due("35: no act can be undone", x.undo(), NONE);
        due("35: rows can stand again", x.between(0, 100), 1);
        x.take(0);
        due("35: an act behind it", x.count(11), 1);
        due("35: once more", x.back(), 1);
        due("35: the row", x.count(6), 120);
        x.see(1, 0, 0);
        x.tell(0, 0);
        x.back();
        due("35: seen and told stay", x.count(12) * 10 + x.count(13), 11);
        Checks.text(x, 0, SILL);
        due("35: no image of this sill", x.back(), NONE);
        due("35: no sill", new FlowerPots().back(), NONE);
    }

    private static void promise36Count() {
        FlowerPots x = Checks.made("n4r3w5d4", "a=rw??", "b=....");
        Checks.text(x, 2, "a");
        Checks.text(x, 3, "y:p");
        Checks.text(x, 3, "y:d");
        Checks.text(x, 3, "y:s");
        x.evening(0);
        x.put(0, 1);
        x.put(3, 2);
        x.see(1, 1, 1);
        x.see(1, 1, 2);
        x.tell(1111, 0);
        Checks.write(x, "n3r12");
        int[] wants = {4, 3, 5, 4, 2, 1, 1002, 2, 1, 3, 5, 3, 2, 1};
        for (int what = 0; what < wants.length; what++) {
            due("36: count(" + what + ")", x.count(what), wants[what]);
        }
        due("36: others", x.count(14), HIDDEN);
        due("36: others", x.count(-1), HIDDEN);
        due("36: others", new FlowerPots().count(14), HIDDEN);
        due("36: others", x.count(Integer.MIN_VALUE), HIDDEN);
    }
}
