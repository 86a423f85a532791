import java.util.Random;

/** Runs of calls drawn with fixed seeds: the class has to answer what the model answers. */
public final class ModelTest {
    private static final String LETTERS = "abcdefgh";
    private static final int CALLS = 500;
    private final Random random;
    private final FlowerPots pots = new FlowerPots();
    private final Model model = new Model();
    private final String name;
    private int calls = 0;

    private ModelTest(String name, long seed) {
        this.name = name;
        random = new Random(seed);
    }

    public static void main(String[] args) {
        int runs = args.length > 0 ? Integer.parseInt(args[0]) : 60;
        int first = args.length > 1 ? Integer.parseInt(args[1]) : 1;
        for (int seed = first; seed < first + runs; seed++) {
            new ModelTest("run " + seed, seed).run();
        }
        for (int seed = first; seed < first + 40 * runs; seed++) {
            new ModelTest("texts " + seed, -seed).texts();
        }
        Checks.end("ModelTest");
    }

    private int draw(int least, int most) {
        return least + random.nextInt(most - least + 1);
    }

    private boolean oneOf(int many) {
        return random.nextInt(many) == 0;
    }

    private String pick(String... some) {
        return some[random.nextInt(some.length)];
    }

    private void due(String call, long got, long want) {
        calls++;
        Checks.due(name + ", call " + calls + ": " + call, got, want);
    }

    // ---------------------------------------------------------------- texts

    private String blanks(String text) {
        if (!oneOf(4)) {
            return text;
        }
        StringBuilder all = new StringBuilder();
        for (char c : text.toCharArray()) {
            all.append(oneOf(6) ? " " : "").append(c);
        }
        return all.append(oneOf(6) ? " " : "").toString();
    }

    private String sill() {
        StringBuilder all = new StringBuilder("n").append(draw(2, 5));
        int order = draw(0, 2);
        for (int i = 0; i < 3; i++) {
            char item = "rwd".charAt((i + order) % 3);
            if (!oneOf(4)) {
                all.append(item).append(item == 'd' ? draw(1, 5) : draw(0, 5));
            }
        }
        return all.toString();
    }

    private String book() {
        StringBuilder all = new StringBuilder();
        int width = draw(2, 5);
        int clauses = draw(1, 8);
        int letters = draw(2, 8);
        for (int i = 0; i < clauses; i++) {
            all.append(i > 0 ? ";" : "").append(LETTERS.charAt(draw(0, letters - 1))).append('=');
            for (int k = 0; k < width; k++) {
                all.append(pick(".", "r", "w", "?", "?"));
            }
        }
        return all.toString();
    }

    private String word() {
        StringBuilder all = new StringBuilder();
        int length = draw(1, oneOf(4) ? 8 : 3);
        int letters = draw(1, 8);
        for (int i = 0; i < length; i++) {
            all.append(LETTERS.charAt(draw(0, letters - 1)));
        }
        return all.toString();
    }

    private String light() {
        StringBuilder all = new StringBuilder();
        int clauses = draw(1, 3);
        for (int i = 0; i < clauses; i++) {
            all.append(i > 0 ? ";" : "").append("y:");
            if (i < clauses - 1 || oneOf(2)) {
                all.append(condition(3)).append('?');
            }
            all.append(sum(3));
        }
        return all.toString();
    }

    private String condition(int deep) {
        String one = unit(deep);
        return oneOf(3) ? one + pick("&", "|") + condition(deep - 1) : one;
    }

    private String unit(int deep) {
        if (deep > 0 && oneOf(4)) {
            return oneOf(2) ? "!" + unit(deep - 1) : "(" + condition(deep - 1) + ")";
        }
        return sum(deep - 1) + pick("=", "<", ">") + sum(deep - 1);
    }

    private String sum(int deep) {
        StringBuilder all = new StringBuilder(atom(deep));
        for (int i = 0; i < 3 && oneOf(2); i++) {
            all.append(pick("+", "-", "*", "/")).append(atom(deep));
        }
        return all.toString();
    }

    private String atom(int deep) {
        if (deep > 0 && oneOf(5)) {
            return "[" + sum(deep - 1) + "]";
        }
        return oneOf(3) ? Integer.toString(draw(0, oneOf(4) ? 9999 : 5)) : pick("p", "d", "s", "n", "p");
    }

    private String textOf(int sort) {
        return blanks(sort == 0 ? sill() : sort == 1 ? book() : sort == 2 ? word() : light());
    }

    private String broken(String text) {
        StringBuilder all = new StringBuilder(text);
        int at = draw(0, text.length());
        String sign = oneOf(9) ? "" + (char) draw(1, 255) : pick("nrwd0123456789ab=.?;y:!([])|&<>+-*/ps ".split(""));
        if (oneOf(3) && at < text.length()) {
            all.deleteCharAt(at);
        } else if (oneOf(2) && at < text.length()) {
            all.replace(at, at + 1, sign);
        } else if (oneOf(8)) {
            all.setLength(at);
        } else {
            all.insert(at, sign);
        }
        return all.toString();
    }

    /** Texts, whole and broken, on both. */
    private void texts() {
        int sort = draw(0, 3);
        String text = oneOf(10) ? nested() : textOf(sort);
        for (int i = draw(0, 3); i > 0; i--) {
            text = broken(text);
        }
        write(text);
        for (int asked = -1; asked <= 4; asked++) {
            due("fault(" + asked + ") of " + model.tape, pots.fault(asked), model.fault(asked));
        }
        if (sort == 3 && model.fault(3) == -1) {
            worths();
        }
    }

    /** As deep as it goes, and deeper. */
    private String nested() {
        StringBuilder front = new StringBuilder();
        StringBuilder back = new StringBuilder();
        int deep = draw(4, 8);
        int sums = draw(0, deep);
        for (int i = 0; i < deep - sums; i++) {
            boolean not = oneOf(2);
            front.append(not ? "!" : "(");
            back.insert(0, not ? "" : ")");
        }
        return "y:" + front + "p+" + "[".repeat(sums) + "d" + "]".repeat(sums) + "<s" + back + "?1;y:2";
    }

    private void worths() {
        write("n5");
        due("text(0)", pots.text(0), model.text(0));
        String text = textOf(3);
        write(text);
        due("text(3) of " + text, pots.text(3), model.text(3));
        due("light(0)", pots.light(0) ? 1 : 0, model.light(0) ? 1 : 0);
        for (int day = 0; day < 3; day++) {
            for (int place = 0; place < 5; place++) {
                for (int sort = 1; sort <= 2; sort++) {
                    due("lightAt of " + text, pots.lightAt(place, sort), model.lightAt(place, sort));
                }
            }
            due("drawn", pots.drawn(1, day), model.drawn(1, day));
        }
    }

    private void write(String text) {
        due("end(0)", pots.end(0) ? 1 : 0, model.end(0) ? 1 : 0);
        for (int first = 0; first < text.length(); first += 20) {
            int[] five = new int[5];
            for (int i = 0; i < 20 && first + i < text.length(); i++) {
                five[i / 4] |= text.charAt(first + i) << (24 - i % 4 * 8);
            }
            due("feed", pots.feed(five[0], five[1], five[2], five[3], five[4]), model.feed(five));
        }
    }

    // ---------------------------------------------------------------- runs

    private void run() {
        text(0);
        text(1);
        text(2);
        for (calls = 10; calls < CALLS;) {
            call();
            if (oneOf(20)) {
                state();
            }
        }
    }

    private void text(int sort) {
        String text = textOf(sort);
        write(oneOf(8) ? broken(text) : text);
        due("fault(" + sort + ") of " + model.tape, pots.fault(sort), model.fault(sort));
        due("text(" + sort + ") of " + model.tape, pots.text(sort), model.text(sort));
    }

    private void state() {
        for (int what = -1; what <= 14; what++) {
            due("count(" + what + ")", pots.count(what), model.count(what));
        }
        due("diary", pots.diary(model.day - 1), model.diary(model.day - 1));
    }

    private int anyRow() {
        int row = 0;
        int digits = oneOf(9) ? draw(1, 6) : model.places;
        for (int i = 0; i < digits; i++) {
            row = row * 10 + (oneOf(30) ? draw(0, 9) : draw(0, 2));
        }
        return oneOf(40) ? -row : row;
    }

    private int anyBook() {
        return oneOf(12) ? draw(-1, 3) : Math.max(0, draw(0, model.books.size()) - 1);
    }

    private int anyLetter() {
        return oneOf(10) ? draw(-2, 8) : draw(-1, 3);
    }

    private void call() {
        int kind = draw(0, 99);
        if (kind < 4) {
            int sort = draw(0, 9);
            text(sort > 3 ? 1 + sort % 3 : oneOf(3) ? sort : 3);
        } else if (kind < 40) {
            actCall();
        } else if (kind < 78) {
            askCall();
        } else {
            factCall();
        }
    }

    private void actCall() {
        int place = draw(-1, model.places);
        int other = draw(-1, model.places);
        int sort = oneOf(10) ? draw(-1, 3) : draw(1, 2);
        switch (draw(0, 15)) {
            case 0:
            case 1:
            case 2:
            case 3:
                due("put", pots.put(place, sort), model.put(place, sort));
                break;
            case 4:
                due("take", pots.take(place), model.take(place));
                break;
            case 5:
            case 6:
                due("move", pots.move(place, other), model.move(place, other));
                break;
            case 7:
            case 8:
            case 9:
                int book = anyBook();
                due("evening", pots.evening(book), model.evening(book));
                break;
            case 10:
                due("undo", pots.undo(), model.undo());
                break;
            case 11:
                if (oneOf(4)) {
                    due("frost", pots.frost(sort), model.frost(sort));
                }
                break;
            case 12:
                int days = oneOf(5) ? draw(-1, 22) : draw(1, 3);
                long seed = random.nextLong();
                due("drawn", pots.drawn(days, seed), model.drawn(days, seed));
                break;
            case 13:
                due("image", pots.image(), model.image());
                break;
            case 14:
                due("back", pots.back(), model.back());
                break;
            default:
                int light = draw(-2, 4);
                due("light", pots.light(light) ? 1 : 0, model.light(light) ? 1 : 0);
        }
    }

    private void askCall() {
        int book = anyBook();
        int letter = anyLetter();
        int what = oneOf(12) ? draw(-1, 2) : draw(0, 1);
        int word = oneOf(10) ? draw(-1, 4) : Math.max(0, draw(0, model.words.size()) - 1);
        int row = anyRow();
        boolean right = oneOf(2);
        String asked = "(" + book + ", " + letter + ", " + what + ", " + word + ", " + row + ")";
        switch (draw(0, 12)) {
            case 0:
                due("says" + asked, pots.says(book, row), model.saysOf(book, row));
                break;
            case 1:
                int other = anyRow();
                due("between" + asked, pots.between(row, other), model.between(row, other));
                break;
            case 2:
            case 3:
                due("nearest" + asked + right, pots.nearest(book, letter, right, what),
                    model.nearest(book, letter, right, what));
                break;
            case 4:
                due("sayable" + asked, pots.sayable(book), model.sayable(book));
                break;
            case 5:
                due("word" + asked, pots.word(book, word, what), model.word(book, word, what));
                break;
            case 6:
                due("soonest" + asked, pots.soonest(book, word), model.soonest(book, word));
                break;
            case 7:
                due("aunt" + asked, pots.aunt(book, letter, what), model.aunt(book, letter, what));
                break;
            case 8:
                int i = draw(-2, 6);
                due("safe" + asked + i, pots.safe(book, letter, i), model.safe(book, letter, i));
                break;
            case 9:
                due("gap" + asked, pots.gap(book), model.gap(book));
                break;
            case 10:
                due("read" + asked, pots.read(book, row), model.read(book, row));
                break;
            case 11:
                int by = anyBook();
                int two = anyLetter();
                due("both" + asked + by + "," + two, pots.both(book, letter, by, two, what),
                    model.both(book, letter, by, two, what));
                break;
            default:
                int place = draw(-1, model.places);
                int sort = draw(0, 3);
                due("lightAt", pots.lightAt(place, sort), model.lightAt(place, sort));
        }
    }

    private void factCall() {
        int day = oneOf(8) ? draw(-1, 8) : draw(1, 3);
        int n = oneOf(8) ? draw(-1, 8) : draw(1, 4);
        int letter = anyLetter();
        int book = anyBook();
        switch (draw(0, 6)) {
            case 0:
                if (oneOf(3)) {
                    int place = draw(-1, model.places);
                    int what = oneOf(8) ? draw(-1, 3) : draw(0, 2);
                    due("see", pots.see(day, place, what), model.see(day, place, what));
                }
                break;
            case 1:
                due("ways(" + n + ")", pots.ways(n), model.ways(n));
                break;
            case 2:
                due("likely", pots.likely(book, n, day, letter), model.likely(book, n, day, letter));
                break;
            case 3:
                if (oneOf(2)) {
                    int row = anyRow();
                    // Mostly what a book says, so that some books agree.
                    int said = model.bookIs(book) && model.rowText(row) != null && !oneOf(4)
                        ? model.saysOf(book, row) : letter;
                    due("tell", pots.tell(row, said), model.tell(row, said));
                }
                break;
            case 4:
                due("agree", pots.agree(), model.agree());
                break;
            case 5:
                due("apart", pots.apart(), model.apart());
                break;
            default:
                int ofDay = draw(-1, model.day + 1);
                due("diary(" + ofDay + ")", pots.diary(ofDay), model.diary(ofDay));
        }
    }
}
