import java.util.ArrayList;
import java.util.NoSuchElementException;

/**
 * A sill with red and white flower pots, and what its rows tell.
 *
 * <p>Rows come and go as decimal numbers. Inside they are codes to the base 3 with place 0 the
 * highest, so that codes and rows stand in the same order and every table has one cell for each.
 */
public final class FlowerPots {
    public static final int NONE = -1;
    public static final int HIDDEN = -1000000;

    private static final int TAPE_MOST = 120;
    private static final int BOOKS_MOST = 3;
    private static final int WORDS_MOST = 4;
    private static final int LIGHTS_MOST = 4;
    private static final int FACTS_MOST = 12;
    private static final int AHEAD_MOST = 6;
    private static final int DRAWN_MOST = 20;
    private static final int LETTERS = 8;
    private static final int NO_SUCH_SORT = -2;

    private final Numbers tape = new Numbers(TAPE_MOST);
    private final SillReader sillReader = new SillReader();
    private final BookReader bookReader = new BookReader();
    private final WordReader wordReader = new WordReader();
    private final LightReader lightReader = new LightReader();
    private final ArrayList<Book> books = new ArrayList<Book>();
    private final ArrayList<Numbers> words = new ArrayList<Numbers>();
    private final ArrayList<Numbers> lights = new ArrayList<Numbers>();
    private final Rows rows = new Rows();
    private final Window window = new Window(rows);
    private final Window kept = new Window(rows);
    private final Roads roads = new Roads(rows, window);
    private final Plans plans = new Plans(rows, window, roads);
    private final Numbers toldRows = new Numbers(FACTS_MOST);
    private final Numbers toldLetters = new Numbers(FACTS_MOST);
    /** The text of the light that holds; null without. */
    private Numbers held = null;
    private boolean imaged = false;

    /** A new object: no sill. */
    public FlowerPots() {
    }

    // ---------------------------------------------------------------- the tape and its texts

    /** Twenty bytes more; answers how many the tape has then. */
    public int feed(int a, int b, int c, int d, int e) {
        int before = tape.length();
        boolean fits = feedFour(a) && feedFour(b) && feedFour(c) && feedFour(d) && feedFour(e);
        if (!fits) {
            tape.cut(before);
            return NONE;
        }
        return tape.length();
    }

    private boolean feedFour(int number) {
        boolean fits = true;
        for (int shift = 24; shift >= 0; shift -= 8) {
            int sign = (number >>> shift) & 255;
            if (sign != 0 && !tape.add(sign)) {
                fits = false;
            }
        }
        return fits;
    }

    /** The tape keeps its first n bytes. */
    public boolean end(int n) {
        if (n < 0 || n > tape.length()) {
            return false;
        }
        tape.cut(n);
        return true;
    }

    /** The fault of the tape as a text of a sort. */
    public int fault(int sort) {
        Reader reader = readerOf(sort);
        return reader == null ? NO_SUCH_SORT : reader.faultIn(tape);
    }

    private Reader readerOf(int sort) {
        switch (sort) {
            case 0:
                return sillReader;
            case 1:
                return bookReader;
            case 2:
                return wordReader;
            case 3:
                return lightReader;
            default:
                return null;
        }
    }

    /** The tape becomes a text of a sort. */
    public int text(int sort) {
        Reader reader = readerOf(sort);
        if (reader == null || isFull(sort) || reader.faultIn(tape) != NONE) {
            return NONE;
        }
        int answer = keepText(sort);
        tape.cut(0);
        return answer;
    }

    private boolean isFull(int sort) {
        return sort == 1 && books.size() >= BOOKS_MOST
            || sort == 2 && words.size() >= WORDS_MOST
            || sort == 3 && lights.size() >= LIGHTS_MOST;
    }

    private int keepText(int sort) {
        if (sort == 0) {
            return beginSill();
        }
        if (sort == 1) {
            Book book = new Book();
            book.takeOver(bookReader.draft());
            book.lay(rows);
            books.add(book);
            return books.size() - 1;
        }
        if (sort == 2) {
            words.add(copyOf(wordReader.draft()));
            return words.size() - 1;
        }
        lights.add(copyOf(tape));
        return lights.size() - 1;
    }

    private static Numbers copyOf(Numbers numbers) {
        Numbers copy = new Numbers(numbers.length());
        copy.takeOver(numbers);
        return copy;
    }

    private int beginSill() {
        rows.lay(sillReader.places());
        window.begin(sillReader.red(), sillReader.white(), sillReader.perDay());
        roads.forget();
        plans.forget();
        toldRows.cut(0);
        toldLetters.cut(0);
        held = null;
        imaged = false;
        for (int i = 0; i < books.size(); i++) {
            books.get(i).lay(rows);
        }
        return rows.places();
    }

    // ---------------------------------------------------------------- what there is

    private boolean hasSill() {
        return rows.places() > 0;
    }

    /** A book of this number, if there is a sill too; else null. */
    private Book bookOf(int book) {
        return hasSill() && book >= 0 && book < books.size() ? books.get(book) : null;
    }

    private Numbers wordOf(int word) {
        return word >= 0 && word < words.size() ? words.get(word) : null;
    }

    private static boolean isLetter(int letter) {
        return letter >= 0 && letter < LETTERS;
    }

    private static boolean isLetterOrNothing(int letter) {
        return letter == NONE || isLetter(letter);
    }

    private static boolean isSort(int sort) {
        return sort == 1 || sort == 2;
    }

    private static boolean isHalf(int what) {
        return what == 0 || what == 1;
    }

    // ---------------------------------------------------------------- what stands, and light

    /** What stands at a place. */
    public int at(int place) throws NoSuchElementException {
        if (!rows.hasPlace(place)) {
            throw new NoSuchElementException("no such place");
        }
        return window.potAt(place);
    }

    /** The light of a place for a sort of pots on the day that is. */
    public int lightAt(int place, int sort) {
        if (!rows.hasPlace(place) || !isSort(sort)) {
            return HIDDEN;
        }
        return held == null ? 0 : lightReader.worthOf(held, place, window.day(), sort, rows.places());
    }

    /** A light holds from now on, or none. */
    public boolean light(int light) {
        if (!hasSill() || light < NONE || light >= lights.size()) {
            return false;
        }
        held = light >= 0 ? lights.get(light) : null;
        return true;
    }

    // ---------------------------------------------------------------- acts

    /** A pot of a sort is put out. */
    public int put(int place, int sort) {
        if (!rows.hasPlace(place) || !isSort(sort) || window.left() <= 0
            || window.potAt(place) != 0 || window.inside(sort) <= 0) {
            return NONE;
        }
        window.become(rows.with(window.row(), place, sort));
        return window.left();
    }

    /** A pot is taken in. */
    public int take(int place) {
        if (!rows.hasPlace(place) || window.left() <= 0 || window.potAt(place) == 0) {
            return NONE;
        }
        window.become(rows.with(window.row(), place, 0));
        return window.left();
    }

    /** A pot is moved. */
    public int move(int from, int to) {
        if (!rows.hasPlace(from) || !rows.hasPlace(to) || window.left() <= 0
            || window.potAt(from) == 0 || window.potAt(to) != 0) {
            return NONE;
        }
        int pot = window.potAt(from);
        window.become(rows.with(rows.with(window.row(), from, 0), to, pot));
        return window.left();
    }

    /** It is evening: what is said by a book. */
    public int evening(int book) {
        Book by = bookOf(book);
        if (by == null || !window.hasDays(1)) {
            return HIDDEN;
        }
        int said = by.letterOf(window.row());
        window.endDay();
        return said;
    }

    /** The latest act is undone. */
    public int undo() {
        return window.undoAct();
    }

    // ---------------------------------------------------------------- what rows say

    /** What a row says by a book. */
    public int says(int book, int row) {
        Book by = bookOf(book);
        int code = rows.codeOf(row);
        return by == null || code == NONE ? HIDDEN : by.letterOf(code);
    }

    /** The fewest moves from a row to a row. */
    public int between(int one, int other) {
        int from = rows.codeOf(one);
        int to = rows.codeOf(other);
        return window.stands(from) && window.stands(to) ? roads.steps(from, to) : NONE;
    }

    /** The nearest row that says a letter: how many moves, or the row. */
    public int nearest(int book, int letter, boolean right, int what) {
        Book by = bookOf(book);
        if (by == null || !isLetter(letter) || !isHalf(what)) {
            return NONE;
        }
        lookFromNow(right);
        return nearestOf(by, letter, null, NONE, what);
    }

    /** Roads from what stands; with right moves alone, the light of the day decides. */
    private void lookFromNow(boolean right) {
        boolean lit = right && held != null;
        if (lit) {
            for (int place = 0; place < rows.places(); place++) {
                for (int sort = 1; sort <= 2; sort++) {
                    roads.shine(place, sort,
                        lightReader.worthOf(held, place, window.day(), sort, rows.places()));
                }
            }
        }
        roads.search(window.row(), lit);
    }

    /** Behind lookFromNow: the nearest row that says a letter by one book and, if there is
     *  another book, two by that one. */
    private int nearestOf(Book book, int letter, Book other, int two, int what) {
        int best = NONE;
        int fewest = Roads.FAR;
        for (int code = 0; code < rows.many(); code++) {
            boolean said = book.letterOf(code) == letter
                && (other == null || other.letterOf(code) == two);
            if (said && roads.found(code) < fewest) {
                best = code;
                fewest = roads.found(code);
            }
        }
        if (best == NONE) {
            return NONE;
        }
        return what == 0 ? fewest : rows.rowOf(best);
    }

    /** The letters that some row can say. */
    public int sayable(int book) {
        Book by = bookOf(book);
        return by == null ? NONE : lettersOf(by);
    }

    private int lettersOf(Book book) {
        int letters = 0;
        for (int code = 0; code < rows.many(); code++) {
            int letter = book.letterOf(code);
            if (letter != NONE && window.stands(code)) {
                letters |= 1 << letter;
            }
        }
        return letters;
    }

    /** A word said at once: how many moves, or the first row. */
    public int word(int book, int word, int what) {
        Book by = bookOf(book);
        Numbers letters = wordOf(word);
        if (by == null || letters == null || !isHalf(what)) {
            return NONE;
        }
        return plans.atOnce(by, letters, what);
    }

    /** The fewest days by which a word is said. */
    public int soonest(int book, int word) {
        Book by = bookOf(book);
        Numbers letters = wordOf(word);
        return by == null || letters == null ? NONE : plans.fewestDays(by, letters);
    }

    // ---------------------------------------------------------------- the aunt, slips

    /** In how many ways of the aunt a letter is said, or of how many. */
    public int aunt(int book, int letter, int what) {
        Book by = bookOf(book);
        if (by == null || !isLetterOrNothing(letter) || !isHalf(what)) {
            return HIDDEN;
        }
        int ways = 1;
        int saying = by.letterOf(window.row()) == letter ? 1 : 0;
        for (int k = 0; k < rows.neighbors(window.row()); k++) {
            int to = rows.neighbor(window.row(), k);
            if (window.stands(to)) {
                ways++;
                saying += by.letterOf(to) == letter ? 1 : 0;
            }
        }
        return what == 0 ? saying : ways;
    }

    /** How many rows are safe for a letter, or the i-th of them. */
    public int safe(int book, int letter, int i) {
        Book by = bookOf(book);
        if (by == null || !isLetter(letter) || i < NONE) {
            return NONE;
        }
        int many = 0;
        for (int code = 0; code < rows.many(); code++) {
            if (window.stands(code) && by.letterOf(code) == letter && isSafe(by, code, letter)) {
                if (many == i) {
                    return rows.rowOf(code);
                }
                many++;
            }
        }
        return i == NONE ? many : NONE;
    }

    private boolean isSafe(Book book, int code, int letter) {
        for (int k = 0; k < rows.neighbors(code); k++) {
            int to = rows.neighbor(code, k);
            int said = book.letterOf(to);
            if (window.stands(to) && said != NONE && said != letter) {
                return false;
            }
        }
        return true;
    }

    /** The fewest moves between rows that say unlike letters. */
    public int gap(int book) {
        Book by = bookOf(book);
        if (by == null) {
            return NONE;
        }
        int fewest = Roads.FAR;
        // One move is the least there can be between unlike rows.
        for (int code = 0; code < rows.many() && fewest > 1; code++) {
            if (window.stands(code) && by.letterOf(code) != NONE) {
                fewest = Math.min(fewest, stepsToUnlike(by, code));
            }
        }
        return fewest < Roads.FAR ? fewest : NONE;
    }

    private int stepsToUnlike(Book book, int from) {
        int letter = book.letterOf(from);
        int fewest = Roads.FAR;
        for (int to = 0; to < from; to++) {
            int said = book.letterOf(to);
            if (said != NONE && said != letter) {
                fewest = Math.min(fewest, roads.steps(from, to));
            }
        }
        return fewest;
    }

    /** The letter nearest to a row. */
    public int read(int book, int row) {
        Book by = bookOf(book);
        int from = rows.codeOf(row);
        if (by == null || !window.stands(from)) {
            return HIDDEN;
        }
        int fewest = Roads.FAR;
        int letter = NONE;
        for (int code = 0; code < rows.many(); code++) {
            int said = by.letterOf(code);
            int steps = said == NONE ? Roads.FAR : roads.steps(from, code);
            if (steps < fewest) {
                fewest = steps;
                letter = said;
            } else if (steps == fewest && steps < Roads.FAR && said != letter) {
                letter = NONE;
            }
        }
        return letter;
    }

    /** The nearest row that says a letter by one book and two by another one. */
    public int both(int book, int letter, int other, int two, int what) {
        Book by = bookOf(book);
        Book byOther = bookOf(other);
        if (by == null || byOther == null || !isLetter(letter) || !isLetterOrNothing(two)
            || !isHalf(what)) {
            return NONE;
        }
        lookFromNow(false);
        return nearestOf(by, letter, byOther, two, what);
    }

    // ---------------------------------------------------------------- seen and told

    /** In the evening of a day from now a place had what. */
    public int see(int day, int place, int what) {
        if (day < 1 || day > AHEAD_MOST || !rows.hasPlace(place) || what < 0 || what > 2) {
            return NONE;
        }
        return plans.noteSeen(day, place, what);
    }

    /** How many rows of rows fit what was seen. */
    public long ways(int n) {
        if (!hasSill() || n < 1 || n > AHEAD_MOST) {
            return NONE;
        }
        return plans.fitting(n, null, 0, NONE);
    }

    /** In how many of these a letter is said in the evening of a day. */
    public long likely(int book, int n, int day, int letter) {
        Book by = bookOf(book);
        if (by == null || n < 1 || n > AHEAD_MOST || day < 1 || day > n
            || !isLetterOrNothing(letter)) {
            return NONE;
        }
        return plans.fitting(n, by, day, letter);
    }

    /** A row said a letter. */
    public int tell(int row, int letter) {
        int code = rows.codeOf(row);
        if (code == NONE || !isLetter(letter) || toldRows.length() >= FACTS_MOST) {
            return NONE;
        }
        toldRows.add(code);
        toldLetters.add(letter);
        return toldRows.length();
    }

    /** The books by which all that was told is so. */
    public int agree() {
        if (!hasSill()) {
            return NONE;
        }
        int bits = 0;
        for (int i = 0; i < books.size(); i++) {
            if (agrees(books.get(i))) {
                bits |= 1 << i;
            }
        }
        return bits;
    }

    private boolean agrees(Book book) {
        for (int i = 0; i < toldRows.length(); i++) {
            if (book.letterOf(toldRows.get(i)) != toldLetters.get(i)) {
                return false;
            }
        }
        return true;
    }

    /** The fewest places that tell the letters apart. */
    public int apart() {
        if (!hasSill()) {
            return NONE;
        }
        int best = NONE;
        for (int bits = 0; bits < 1 << rows.places(); bits++) {
            boolean fewer = best == NONE || Integer.bitCount(bits) < Integer.bitCount(best);
            if (fewer && tellsApart(bits)) {
                best = bits;
            }
        }
        return best;
    }

    private boolean tellsApart(int bits) {
        for (int i = 0; i < toldRows.length(); i++) {
            for (int k = 0; k < i; k++) {
                if (toldLetters.get(i) != toldLetters.get(k)
                    && (rows.unlikePlaces(toldRows.get(i), toldRows.get(k)) & bits) == 0) {
                    return false;
                }
            }
        }
        return true;
    }

    // ---------------------------------------------------------------- frost, days by draws

    /** A pot inside dies. */
    public int frost(int sort) {
        if (!hasSill() || !isSort(sort) || window.inside(sort) <= 0) {
            return NONE;
        }
        window.loseOne(sort);
        roads.forget();
        return window.pots(sort);
    }

    /** Days go by on which the aunt alone makes a move, or none. */
    public int drawn(int n, long seed) {
        if (!hasSill() || n < 1 || n > DRAWN_MOST || !window.hasDays(n)) {
            return NONE;
        }
        long x = seed;
        for (int i = 0; i < n; i++) {
            x = x * 6364136223846793005L + 1442695040888963407L;
            window.drawMove(x >>> 33);
            window.endDay();
        }
        window.forgetActs();
        return window.day();
    }

    /** The row in the evening of a day. */
    public int diary(int day) {
        return window.hasWritten(day) ? rows.rowOf(window.written(day)) : NONE;
    }

    /** An image keeps what is. */
    public int image() {
        if (!hasSill()) {
            return NONE;
        }
        kept.takeOver(window);
        imaged = true;
        return window.day();
    }

    /** What the image kept is so again. */
    public int back() {
        if (!imaged) {
            return NONE;
        }
        window.takeOver(kept);
        window.forgetActs();
        roads.forget();
        return window.day();
    }

    /** How many there are of what. */
    public int count(int what) {
        switch (what) {
            case 0:
                return rows.places();
            case 1:
            case 2:
                return window.pots(what);
            case 3:
                return window.perDay();
            case 4:
                return window.left();
            case 5:
                return window.day();
            case 6:
                return rows.rowOf(window.row());
            case 7:
                return books.size();
            case 8:
                return words.size();
            case 9:
                return lights.size();
            case 10:
                return tape.length();
            case 11:
                return window.acts();
            case 12:
                return plans.seen();
            case 13:
                return toldRows.length();
            default:
                return HIDDEN;
        }
    }

    // ================================================================ classes inside

    /** A row of numbers of one capacity; outside of it there is 0, and nothing is kept there. */
    private static final class Numbers {
        private final int[] cells;
        private int length = 0;

        Numbers(int most) {
            cells = new int[most < 0 ? 0 : most];
        }

        int length() {
            return length;
        }

        int get(int i) {
            return i >= 0 && i < cells.length ? cells[i] : 0;
        }

        void set(int i, int number) {
            if (i >= 0 && i < cells.length) {
                cells[i] = number;
            }
        }

        void setAll(int number) {
            for (int i = 0; i < cells.length; i++) {
                cells[i] = number;
            }
        }

        /** False: it is full. */
        boolean add(int number) {
            if (length < 0 || length >= cells.length) {
                return false;
            }
            cells[length] = number;
            length++;
            return true;
        }

        /** The first n of those that were added stay. */
        void cut(int n) {
            if (n >= 0 && n <= length) {
                length = n;
            }
        }

        void dropFirst() {
            if (length > 0 && length <= cells.length) {
                System.arraycopy(cells, 1, cells, 0, length - 1);
                length--;
            }
        }

        void takeOver(Numbers other) {
            int most = Math.min(cells.length, other.cells.length);
            System.arraycopy(other.cells, 0, cells, 0, most);
            length = Math.min(other.length, cells.length);
        }
    }

    /** Goes through a text sign by sign and notes the first byte at which it can't go on. */
    private abstract static class Reader {
        /** No byte of a tape is 0, so this stands for the end and for what lies behind a fault. */
        static final int END = 0;
        private static final int BLANK = 32;

        private Numbers written = null;
        private int position = 0;
        private int sign = END;
        private int fault = NONE;

        /** The fault of a text; none: NONE, and what it tells can be asked of the reader. */
        abstract int faultIn(Numbers text);

        final void start(Numbers text) {
            written = text;
            position = -1;
            fault = NONE;
            step();
        }

        final int sign() {
            return sign;
        }

        /** On to the next sign that is no blank. */
        final void step() {
            if (fault != NONE || written == null) {
                return;
            }
            position++;
            int length = Math.min(written.length, written.cells.length);
            while (position >= 0 && position < length && written.cells[position] == BLANK) {
                position++;
            }
            sign = position >= 0 && position < length ? written.cells[position] : END;
        }

        /** Whether the very next byte is a digit. */
        final boolean touchesDigit() {
            int next = position + 1;
            return written != null && next >= 0 && next < written.length && next < written.cells.length
                && written.cells[next] >= '0' && written.cells[next] <= '9';
        }

        final boolean skip(int wanted) {
            if (sign != wanted) {
                return false;
            }
            step();
            return true;
        }

        final void need(int wanted) {
            if (sign == wanted) {
                step();
            } else {
                refuse();
            }
        }

        /** A digit between bounds. */
        final int needDigit(int least, int most) {
            int digit = sign - '0';
            if (digit < least || digit > most) {
                refuse();
                return least;
            }
            step();
            return digit;
        }

        /** A letter a .. h as 0 .. 7. */
        final int needLetter() {
            int letter = sign - 'a';
            if (!isLetter(letter)) {
                refuse();
                return 0;
            }
            step();
            return letter;
        }

        final void refuse() {
            if (fault == NONE) {
                fault = position;
            }
            sign = END;
        }

        final int finish() {
            if (sign != END) {
                refuse();
            }
            return fault;
        }
    }

    private static final class SillReader extends Reader {
        private int places = 0;
        private int red = 0;
        private int white = 0;
        private int perDay = 0;

        int faultIn(Numbers text) {
            start(text);
            need('n');
            places = needDigit(2, Rows.PLACES_MOST);
            red = NONE;
            white = NONE;
            perDay = NONE;
            for (int item = 0; item < 3 && sign() != END; item++) {
                readItem();
            }
            return finish();
        }

        private void readItem() {
            if (red == NONE && skip('r')) {
                red = needDigit(0, 5);
            } else if (white == NONE && skip('w')) {
                white = needDigit(0, 5);
            } else if (perDay == NONE && skip('d')) {
                perDay = needDigit(1, 5);
            } else {
                refuse();
            }
        }

        int places() {
            return places;
        }

        int red() {
            return red == NONE ? 2 : red;
        }

        int white() {
            return white == NONE ? 2 : white;
        }

        int perDay() {
            return perDay == NONE ? 2 : perDay;
        }
    }

    private static final class BookReader extends Reader {
        private final Book draft = new Book();

        int faultIn(Numbers text) {
            start(text);
            draft.empty();
            boolean more = true;
            for (int clause = 0; clause < Book.CLAUSES_MOST && more; clause++) {
                readClause(clause);
                more = clause < Book.CLAUSES_MOST - 1 && skip(';');
            }
            return finish();
        }

        private void readClause(int clause) {
            draft.begin(needLetter());
            need('=');
            int least = clause == 0 ? 2 : draft.width();
            int most = clause == 0 ? Rows.PLACES_MOST : draft.width();
            int many = 0;
            while (many < most && isPotSign(sign())) {
                draft.setSign(clause, many, sign());
                many++;
                step();
            }
            if (many < least) {
                refuse();
            }
            if (clause == 0) {
                draft.setWidth(many);
            }
        }

        private static boolean isPotSign(int sign) {
            return sign == '.' || sign == 'r' || sign == 'w' || sign == '?';
        }

        Book draft() {
            return draft;
        }
    }

    private static final class WordReader extends Reader {
        private static final int WORD_MOST = 8;
        private final Numbers draft = new Numbers(WORD_MOST);

        int faultIn(Numbers text) {
            start(text);
            draft.cut(0);
            draft.add(needLetter());
            for (int i = 1; i < WORD_MOST && sign() != END; i++) {
                draft.add(needLetter());
            }
            return finish();
        }

        Numbers draft() {
            return draft;
        }
    }

    /** Reads a light and reckons its worth in one go; a text alone is read with any letters. */
    private static final class LightReader extends Reader {
        private static final int DEPTH_MOST = 6;
        private static final int DIGITS_MOST = 4;
        private static final int SIGNS_MOST = TAPE_MOST;
        private static final long BOUND = 1000000L;

        private int place = 0;
        private int day = 0;
        private int sort = 0;
        private int places = 0;
        private boolean decided = false;
        private long worth = 0;

        int faultIn(Numbers text) {
            worthOf(text, 0, 0, 0, 0);
            return finish();
        }

        int worthOf(Numbers text, int ofPlace, int ofDay, int ofSort, int ofPlaces) {
            place = ofPlace;
            day = ofDay;
            sort = ofSort;
            places = ofPlaces;
            start(text);
            decided = false;
            worth = 0;
            boolean more = true;
            for (int clause = 0; clause < SIGNS_MOST && more; clause++) {
                readClause();
                more = skip(';');
            }
            return (int) worth;
        }

        private void readClause() {
            need('y');
            need(':');
            boolean holds = true;
            long sum = 0;
            boolean bare = sign() != '!' && sign() != '(';
            if (bare) {
                sum = readSum(0);
            }
            if (!bare || isComparison(sign())) {
                holds = readCondition(0, bare, sum);
                need('?');
                sum = readSum(0);
            }
            if (holds && !decided) {
                decided = true;
                worth = sum;
            }
        }

        private static boolean isComparison(int sign) {
            return sign == '=' || sign == '<' || sign == '>';
        }

        /** A condition; begun: the sum that its first unit begins with was read already. */
        private boolean readCondition(int depth, boolean begun, long sum) {
            boolean any = readTruth(depth, begun, sum);
            for (int i = 0; i < SIGNS_MOST && skip('|'); i++) {
                boolean one = readTruth(depth, false, 0);
                any = any || one;
            }
            return any;
        }

        private boolean readTruth(int depth, boolean begun, long sum) {
            boolean all = readUnit(depth, begun, sum);
            for (int i = 0; i < SIGNS_MOST && skip('&'); i++) {
                boolean one = readUnit(depth, false, 0);
                all = all && one;
            }
            return all;
        }

        private boolean readUnit(int depth, boolean begun, long sum) {
            int first = sign();
            if (!begun && (first == '!' || first == '(')) {
                if (depth >= DEPTH_MOST) {
                    refuse();
                    return false;
                }
                step();
                if (first == '!') {
                    return !readUnit(depth + 1, false, 0);
                }
                boolean inner = readCondition(depth + 1, false, 0);
                need(')');
                return inner;
            }
            long here = begun ? sum : readSum(depth);
            int comparison = sign();
            if (!isComparison(comparison)) {
                refuse();
                return false;
            }
            step();
            long there = readSum(depth);
            if (comparison == '=') {
                return here == there;
            }
            return comparison == '<' ? here < there : here > there;
        }

        private long readSum(int depth) {
            long sum = readTerm(depth);
            for (int i = 0; i < SIGNS_MOST && (sign() == '+' || sign() == '-'); i++) {
                boolean plus = sign() == '+';
                step();
                long term = readTerm(depth);
                sum = within(plus ? sum + term : sum - term);
            }
            return sum;
        }

        private long readTerm(int depth) {
            long term = readAtom(depth);
            for (int i = 0; i < SIGNS_MOST && (sign() == '*' || sign() == '/'); i++) {
                boolean times = sign() == '*';
                step();
                long atom = readAtom(depth);
                if (times) {
                    term = within(term * atom);
                } else {
                    term = atom == 0 ? 0 : term / atom;
                }
            }
            return term;
        }

        private static long within(long number) {
            return Math.max(-BOUND, Math.min(BOUND, number));
        }

        private long readAtom(int depth) {
            int first = sign();
            if (first == '[' && depth < DEPTH_MOST) {
                step();
                long sum = readSum(depth + 1);
                need(']');
                return sum;
            }
            long atom = 0;
            if (first >= '0' && first <= '9') {
                atom = first - '0';
                for (int digits = 1; digits < DIGITS_MOST && touchesDigit(); digits++) {
                    step();
                    atom = atom * 10 + (sign() - '0');
                }
            } else if (first == 'p') {
                atom = place;
            } else if (first == 'd') {
                atom = day;
            } else if (first == 's') {
                atom = sort;
            } else if (first == 'n') {
                atom = places;
            } else {
                refuse();
            }
            step();
            return atom;
        }
    }

    /** Clauses by which a row says a letter. */
    private static final class Book {
        static final int CLAUSES_MOST = 8;

        private final Numbers letters = new Numbers(CLAUSES_MOST);
        private final Numbers signs = new Numbers(CLAUSES_MOST * Rows.PLACES_MOST);
        /** What each row of the sill says, laid anew for each sill. */
        private final Numbers said = new Numbers(Rows.ROWS_MOST);
        private int width = 0;

        void empty() {
            letters.cut(0);
            width = 0;
        }

        void begin(int letter) {
            letters.add(letter);
        }

        int width() {
            return width;
        }

        void setWidth(int many) {
            width = many;
        }

        void setSign(int clause, int place, int sign) {
            signs.set(clause * Rows.PLACES_MOST + place, sign);
        }

        void takeOver(Book other) {
            letters.takeOver(other.letters);
            signs.takeOver(other.signs);
            width = other.width;
        }

        void lay(Rows rows) {
            for (int code = 0; code < rows.many(); code++) {
                said.set(code, firstFit(rows, code));
            }
        }

        private int firstFit(Rows rows, int code) {
            for (int clause = 0; clause < letters.length(); clause++) {
                if (fits(rows, code, clause)) {
                    return letters.get(clause);
                }
            }
            return NONE;
        }

        private boolean fits(Rows rows, int code, int clause) {
            for (int place = 0; place < rows.places(); place++) {
                int sign = place < width ? signs.get(clause * Rows.PLACES_MOST + place) : '.';
                int wanted = sign == 'r' ? 1 : sign == 'w' ? 2 : 0;
                if (sign != '?' && rows.potAt(code, place) != wanted) {
                    return false;
                }
            }
            return true;
        }

        int letterOf(int code) {
            return said.get(code);
        }
    }

    /** All rows of a sill, whether they can stand or not, and the moves between them. */
    private static final class Rows {
        static final int PLACES_MOST = 5;
        static final int ROWS_MOST = 243;
        /** With two pots out: three places for either sort, two to take in, six to move. */
        private static final int NEIGHBORS_MOST = 14;

        private int places = 0;
        private int many = 0;
        private final Numbers pots = new Numbers(ROWS_MOST * PLACES_MOST);
        private final Numbers weights = new Numbers(PLACES_MOST);
        private final Numbers reds = new Numbers(ROWS_MOST);
        private final Numbers whites = new Numbers(ROWS_MOST);
        private final Numbers neighborCounts = new Numbers(ROWS_MOST);
        private final Numbers neighborCodes = new Numbers(ROWS_MOST * NEIGHBORS_MOST);

        /** Makes the tables for so many places. */
        void lay(int newPlaces) {
            places = newPlaces;
            int weight = 1;
            for (int place = places - 1; place >= 0; place--) {
                weights.set(place, weight);
                weight *= 3;
            }
            many = weight;
            for (int code = 0; code < many; code++) {
                layPots(code);
            }
            for (int code = 0; code < many; code++) {
                layNeighbors(code);
            }
        }

        private void layPots(int code) {
            int red = 0;
            int white = 0;
            int rest = code;
            for (int place = places - 1; place >= 0; place--) {
                int pot = rest % 3;
                pots.set(code * PLACES_MOST + place, pot);
                red += pot == 1 ? 1 : 0;
                white += pot == 2 ? 1 : 0;
                rest /= 3;
            }
            reds.set(code, red);
            whites.set(code, white);
        }

        private void layNeighbors(int code) {
            neighborCounts.set(code, 0);
            for (int place = 0; place < places; place++) {
                int pot = potAt(code, place);
                if (pot == 0) {
                    addNeighbor(code, with(code, place, 1));
                    addNeighbor(code, with(code, place, 2));
                } else {
                    int without = with(code, place, 0);
                    addNeighbor(code, without);
                    for (int to = 0; to < places; to++) {
                        if (potAt(code, to) == 0) {
                            addNeighbor(code, with(without, to, pot));
                        }
                    }
                }
            }
        }

        /** Puts a neighbor among those that there are, rising. */
        private void addNeighbor(int code, int to) {
            int first = code * NEIGHBORS_MOST;
            int k = neighborCounts.get(code);
            neighborCounts.set(code, k + 1);
            while (k > 0 && neighborCodes.get(first + k - 1) > to) {
                neighborCodes.set(first + k, neighborCodes.get(first + k - 1));
                k--;
            }
            neighborCodes.set(first + k, to);
        }

        /** 0: there is no sill. */
        int places() {
            return places;
        }

        boolean hasPlace(int place) {
            return place >= 0 && place < places;
        }

        int many() {
            return many;
        }

        int potAt(int code, int place) {
            return pots.get(code * PLACES_MOST + place);
        }

        int reds(int code) {
            return reds.get(code);
        }

        int whites(int code) {
            return whites.get(code);
        }

        /** The row with a pot, or nothing, at a place. */
        int with(int code, int place, int pot) {
            return code + (pot - potAt(code, place)) * weights.get(place);
        }

        int neighbors(int code) {
            return neighborCounts.get(code);
        }

        int neighbor(int code, int k) {
            return neighborCodes.get(code * NEIGHBORS_MOST + k);
        }

        /** The places, as bits, at which two rows are unlike. */
        int unlikePlaces(int one, int other) {
            int bits = 0;
            for (int place = 0; place < places; place++) {
                if (potAt(one, place) != potAt(other, place)) {
                    bits |= 1 << place;
                }
            }
            return bits;
        }

        /** The code of a row told in decimal digits; NONE: no row of this sill. */
        int codeOf(int row) {
            if (places == 0 || row < 0) {
                return NONE;
            }
            int code = 0;
            int rest = row;
            for (int place = places - 1; place >= 0; place--) {
                int digit = rest % 10;
                if (digit > 2) {
                    return NONE;
                }
                code += digit * weights.get(place);
                rest /= 10;
            }
            return rest == 0 ? code : NONE;
        }

        int rowOf(int code) {
            int row = 0;
            for (int place = 0; place < places; place++) {
                row = row * 10 + potAt(code, place);
            }
            return row;
        }
    }

    /** What stands in the window and what was done there. */
    private static final class Window {
        private static final int EVENINGS_MOST = 60;
        private static final int ACTS_MOST = 60;

        private final Rows rows;
        private int red = 0;
        private int white = 0;
        private int perDay = 0;
        private int row = 0;
        private int day = 0;
        private int left = 0;
        private final Numbers diaryRows = new Numbers(EVENINGS_MOST);
        /** What was so ahead of each act that can be undone, the oldest first. */
        private final Numbers actRows = new Numbers(ACTS_MOST);
        private final Numbers actDays = new Numbers(ACTS_MOST);
        private final Numbers actLefts = new Numbers(ACTS_MOST);

        Window(Rows allRows) {
            rows = allRows;
        }

        /** A new sill. */
        void begin(int reds, int whites, int moves) {
            red = reds;
            white = whites;
            perDay = moves;
            row = 0;
            day = 0;
            left = moves;
            forgetActs();
        }

        /** All of another window but its acts. */
        void takeOver(Window other) {
            red = other.red;
            white = other.white;
            perDay = other.perDay;
            row = other.row;
            day = other.day;
            left = other.left;
            diaryRows.takeOver(other.diaryRows);
        }

        int row() {
            return row;
        }

        int day() {
            return day;
        }

        int left() {
            return left;
        }

        int perDay() {
            return perDay;
        }

        int pots(int sort) {
            return sort == 1 ? red : white;
        }

        int inside(int sort) {
            return sort == 1 ? red - rows.reds(row) : white - rows.whites(row);
        }

        int potAt(int place) {
            return rows.potAt(row, place);
        }

        /** Whether there are enough pots for a row. */
        boolean stands(int code) {
            return code >= 0 && code < rows.many()
                && rows.reds(code) <= red && rows.whites(code) <= white;
        }

        /** A move by hand. */
        void become(int code) {
            noteAct();
            row = code;
            left--;
        }

        boolean hasDays(int n) {
            return n <= EVENINGS_MOST - day;
        }

        /** An evening, as an act. */
        void endDay() {
            noteAct();
            diaryRows.set(day, row);
            day++;
            left = perDay;
        }

        /** The aunt's move: what is drawn of none and all moves, by the rows to which they lead. */
        void drawMove(long draw) {
            int moves = 0;
            for (int k = 0; k < rows.neighbors(row); k++) {
                moves += stands(rows.neighbor(row, k)) ? 1 : 0;
            }
            int ways = moves + 1;
            int chosen = ways > 0 ? (int) (draw % ways) : 0;
            int from = row;
            for (int k = 0; k < rows.neighbors(from) && chosen > 0; k++) {
                int to = rows.neighbor(from, k);
                if (stands(to)) {
                    chosen--;
                    if (chosen == 0) {
                        row = to;
                    }
                }
            }
        }

        void loseOne(int sort) {
            red -= sort == 1 ? 1 : 0;
            white -= sort == 2 ? 1 : 0;
            forgetActs();
        }

        boolean hasWritten(int ofDay) {
            return ofDay >= 0 && ofDay < day;
        }

        int written(int ofDay) {
            return diaryRows.get(ofDay);
        }

        private void noteAct() {
            if (actRows.length() >= ACTS_MOST) {
                actRows.dropFirst();
                actDays.dropFirst();
                actLefts.dropFirst();
            }
            actRows.add(row);
            actDays.add(day);
            actLefts.add(left);
        }

        /** How many acts can be undone then; NONE: there was none. */
        int undoAct() {
            int latest = actRows.length() - 1;
            if (latest < 0) {
                return NONE;
            }
            row = actRows.get(latest);
            day = actDays.get(latest);
            left = actLefts.get(latest);
            actRows.cut(latest);
            actDays.cut(latest);
            actLefts.cut(latest);
            return latest;
        }

        int acts() {
            return actRows.length();
        }

        void forgetActs() {
            actRows.cut(0);
            actDays.cut(0);
            actLefts.cut(0);
        }
    }

    /** The fewest moves from row to row. */
    private static final class Roads {
        /** More than any fewest moves: all pots in and others out are ten at most. */
        static final int FAR = 15;
        /** Eight numbers of moves lie in one cell, four bits each. */
        private static final int CELLS = (Rows.ROWS_MOST * Rows.ROWS_MOST + 7) / 8;

        private final Rows rows;
        private final Window window;
        private final Numbers lit = new Numbers(Rows.PLACES_MOST * 2);
        private final Numbers found = new Numbers(Rows.ROWS_MOST);
        private final Numbers queue = new Numbers(Rows.ROWS_MOST);
        private final Numbers known = new Numbers(Rows.ROWS_MOST);
        private final Numbers packed = new Numbers(CELLS);

        Roads(Rows allRows, Window ofWindow) {
            rows = allRows;
            window = ofWindow;
        }

        /** Behind other pots or places: other roads. */
        void forget() {
            known.setAll(0);
        }

        void shine(int place, int sort, int worth) {
            lit.set(place * 2 + sort - 1, worth);
        }

        /** Finds the fewest moves from a row to each; by light: with right moves alone. */
        void search(int from, boolean byLight) {
            found.setAll(FAR);
            queue.cut(0);
            if (window.stands(from)) {
                found.set(from, 0);
                queue.add(from);
            }
            for (int head = 0; head < Rows.ROWS_MOST && head < queue.length(); head++) {
                int code = queue.get(head);
                for (int k = 0; k < rows.neighbors(code); k++) {
                    int to = rows.neighbor(code, k);
                    if (found.get(to) == FAR && window.stands(to)
                        && (!byLight || looksRight(code, to))) {
                        found.set(to, found.get(code) + 1);
                        queue.add(to);
                    }
                }
            }
        }

        private boolean looksRight(int from, int to) {
            int here = NONE;
            int there = NONE;
            int sort = 0;
            for (int place = 0; place < rows.places(); place++) {
                int before = rows.potAt(from, place);
                int after = rows.potAt(to, place);
                if (before != 0 && after == 0) {
                    here = place;
                    sort = before;
                } else if (before == 0 && after != 0) {
                    there = place;
                }
            }
            return here == NONE || there == NONE
                || lit.get(there * 2 + sort - 1) >= lit.get(here * 2 + sort - 1);
        }

        /** What the latest search found. */
        int found(int code) {
            return found.get(code);
        }

        /** The fewest of all moves between two rows of the sill; FAR: one of them can't stand. */
        int steps(int from, int to) {
            if (known.get(from) == 0) {
                search(from, false);
                pack(from);
            }
            int cell = from * Rows.ROWS_MOST + to;
            return (packed.get(cell >> 3) >>> ((cell & 7) * 4)) & FAR;
        }

        private void pack(int from) {
            known.set(from, 1);
            for (int to = 0; to < rows.many(); to++) {
                int cell = from * Rows.ROWS_MOST + to;
                int shift = (cell & 7) * 4;
                int others = packed.get(cell >> 3) & ~(FAR << shift);
                packed.set(cell >> 3, others | found.get(to) << shift);
            }
        }
    }

    /** What can come evening by evening. */
    private static final class Plans {
        private static final int DAYS_MOST = 60;
        /** More than the moves of any word. */
        private static final int TOO_DEAR = 1000;

        private final Rows rows;
        private final Window window;
        private final Roads roads;
        private final Numbers seenDays = new Numbers(FACTS_MOST);
        private final Numbers seenPlaces = new Numbers(FACTS_MOST);
        private final Numbers seenPots = new Numbers(FACTS_MOST);
        private final Numbers here = new Numbers(Rows.ROWS_MOST);
        private final Numbers there = new Numbers(Rows.ROWS_MOST);
        private final Numbers yesterday = new Numbers(Rows.ROWS_MOST);
        private final long[] waysHere = new long[Rows.ROWS_MOST];
        private final long[] waysThere = new long[Rows.ROWS_MOST];

        Plans(Rows allRows, Window ofWindow, Roads ofRoads) {
            rows = allRows;
            window = ofWindow;
            roads = ofRoads;
        }

        void forget() {
            seenDays.cut(0);
            seenPlaces.cut(0);
            seenPots.cut(0);
        }

        int seen() {
            return seenDays.length();
        }

        /** How many there are then; NONE: no more can be seen. */
        int noteSeen(int day, int place, int pot) {
            if (!seenDays.add(day)) {
                return NONE;
            }
            seenPlaces.add(place);
            seenPots.add(pot);
            return seenDays.length();
        }

        /** Moves of the k-th day from now, beginning with 1. */
        private int movesOf(int day) {
            return day == 1 ? window.left() : window.perDay();
        }

        // ------------------------------------------------------------ words

        /** A word said at once: how many moves (0), the first row (1). */
        int atOnce(Book book, Numbers letters, int what) {
            // Behind the last letter it costs nothing to stay.
            here.setAll(0);
            for (int i = letters.length() - 1; i >= 0; i--) {
                for (int code = 0; code < rows.many(); code++) {
                    boolean said = window.stands(code) && book.letterOf(code) == letters.get(i);
                    there.set(code, said ? cheapest(code) : TOO_DEAR);
                }
                here.takeOver(there);
            }
            int best = NONE;
            int fewest = TOO_DEAR;
            for (int code = 0; code < rows.many(); code++) {
                int steps = roads.steps(window.row(), code);
                int moves = steps + here.get(code);
                if (steps <= movesOf(1) && moves < fewest) {
                    best = code;
                    fewest = moves;
                }
            }
            if (best == NONE) {
                return NONE;
            }
            return what == 0 ? fewest : rows.rowOf(best);
        }

        /** The fewest moves from a row on, through the rows that here tells the costs of. */
        private int cheapest(int from) {
            int fewest = TOO_DEAR;
            for (int to = 0; to < rows.many(); to++) {
                if (here.get(to) < fewest) {
                    int steps = roads.steps(from, to);
                    if (steps <= window.perDay()) {
                        fewest = Math.min(fewest, steps + here.get(to));
                    }
                }
            }
            return fewest;
        }

        /** The fewest days by which a word is said, silent evenings between. Here tells of each
         *  row, as bits, how many letters may have been said when it stands in the evening. */
        int fewestDays(Book book, Numbers letters) {
            int whole = 1 << letters.length();
            here.setAll(0);
            here.set(window.row(), 1);
            for (int day = 1; day <= DAYS_MOST; day++) {
                yesterday.takeOver(here);
                for (int move = 0; move < movesOf(day); move++) {
                    spread();
                }
                boolean changed = false;
                for (int code = 0; code < rows.many(); code++) {
                    int said = goOn(here.get(code), book.letterOf(code), letters);
                    if ((said & whole) != 0) {
                        return day;
                    }
                    here.set(code, said);
                    changed = changed || said != yesterday.get(code);
                }
                // On the first day there may be fewer moves than on the next ones.
                if (!changed && day > 1) {
                    return NONE;
                }
            }
            return NONE;
        }

        /** One move, or none, from each row. */
        private void spread() {
            for (int code = 0; code < rows.many(); code++) {
                int bits = here.get(code);
                for (int k = 0; k < rows.neighbors(code); k++) {
                    bits |= here.get(rows.neighbor(code, k));
                }
                there.set(code, window.stands(code) ? bits : 0);
            }
            here.takeOver(there);
        }

        /** How many letters, as bits, may have been said behind an evening that says one. */
        private static int goOn(int bits, int letter, Numbers letters) {
            if (letter == NONE) {
                return bits;
            }
            int next = 0;
            for (int i = 0; i < letters.length(); i++) {
                if (letters.get(i) == letter && (bits & 1 << i) != 0) {
                    next |= 1 << (i + 1);
                }
            }
            return next;
        }

        // ------------------------------------------------------------ what was seen

        /** How many rows of n rows fit all that was seen; with a book, by which the one of a day
         *  says a letter. */
        long fitting(int n, Book book, int day, int letter) {
            for (int code = 0; code < waysHere.length; code++) {
                waysHere[code] = code == window.row() ? 1 : 0;
            }
            for (int k = 1; k <= n; k++) {
                for (int to = 0; to < rows.many() && to < waysThere.length; to++) {
                    boolean asked = book == null || k != day || book.letterOf(to) == letter;
                    waysThere[to] = asked && wasSeen(k, to) ? waysTo(to, movesOf(k)) : 0;
                }
                int most = Math.min(waysThere.length, waysHere.length);
                System.arraycopy(waysThere, 0, waysHere, 0, most);
            }
            long sum = 0;
            for (int code = 0; code < rows.many() && code < waysHere.length; code++) {
                sum += waysHere[code];
            }
            return sum;
        }

        private boolean wasSeen(int day, int code) {
            for (int i = 0; i < seenDays.length(); i++) {
                if (seenDays.get(i) == day
                    && rows.potAt(code, seenPlaces.get(i)) != seenPots.get(i)) {
                    return false;
                }
            }
            return true;
        }

        private long waysTo(int to, int moves) {
            long sum = 0;
            for (int from = 0; from < rows.many() && from < waysHere.length; from++) {
                if (waysHere[from] != 0 && roads.steps(from, to) <= moves) {
                    sum += waysHere[from];
                }
            }
            return sum;
        }
    }
}
