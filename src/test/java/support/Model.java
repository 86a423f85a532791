import java.util.ArrayDeque;
import java.util.ArrayList;
import java.util.Arrays;
import java.util.Collections;
import java.util.HashMap;
import java.util.HashSet;
import java.util.List;
import java.util.Map;
import java.util.Set;
import java.util.TreeMap;
import java.util.TreeSet;

/** The document once more, in the plainest form and with other means: rows are texts of digits. */
final class Model {
    static final int NONE = -1;
    static final int HIDDEN = -1000000;

    String tape = "";
    int places = 0;
    int[] pots = new int[3];
    int perDay = 0;
    int left = 0;
    int day = 0;
    String row = "";
    String light = null;
    final List<String> books = new ArrayList<>();
    final List<String> words = new ArrayList<>();
    final List<String> lights = new ArrayList<>();
    List<String> diary = new ArrayList<>();
    final List<Object[]> acts = new ArrayList<>();
    final List<int[]> seen = new ArrayList<>();
    final List<Object[]> told = new ArrayList<>();
    Object[] image = null;

    // ---------------------------------------------------------------- texts

    int feed(int... numbers) {
        StringBuilder more = new StringBuilder(tape);
        for (int number : numbers) {
            for (int shift = 24; shift >= 0; shift -= 8) {
                char c = (char) (number >> shift & 255);
                if (c != 0) {
                    more.append(c);
                }
            }
        }
        if (more.length() > 120) {
            return NONE;
        }
        tape = more.toString();
        return tape.length();
    }

    boolean end(int n) {
        if (n < 0 || n > tape.length()) {
            return false;
        }
        tape = tape.substring(0, n);
        return true;
    }

    int fault(int sort) {
        return sort < 0 || sort > 3 ? -2 : Grammar.fault(sort, tape);
    }

    int text(int sort) {
        if (fault(sort) != NONE) {
            return NONE;
        }
        String plain = tape.replace(" ", "");
        int answer;
        if (sort == 0) {
            answer = sill(plain);
        } else {
            List<String> kept = sort == 1 ? books : sort == 2 ? words : lights;
            if (kept.size() >= (sort == 1 ? 3 : 4)) {
                return NONE;
            }
            kept.add(plain);
            answer = kept.size() - 1;
        }
        tape = "";
        return answer;
    }

    private int sill(String plain) {
        places = plain.charAt(1) - '0';
        pots = new int[] {0, item(plain, 'r'), item(plain, 'w')};
        perDay = item(plain, 'd');
        left = perDay;
        day = 0;
        row = "0".repeat(places);
        light = null;
        diary = new ArrayList<>();
        acts.clear();
        seen.clear();
        told.clear();
        image = null;
        return places;
    }

    private static int item(String plain, char letter) {
        int i = plain.indexOf(letter);
        return i < 0 ? 2 : plain.charAt(i + 1) - '0';
    }

    // ---------------------------------------------------------------- rows

    boolean sillIs() {
        return places > 0;
    }

    boolean bookIs(int book) {
        return sillIs() && book >= 0 && book < books.size();
    }

    static int many(String row, char pot) {
        int many = 0;
        for (char c : row.toCharArray()) {
            many += c == pot ? 1 : 0;
        }
        return many;
    }

    boolean stands(String row) {
        return many(row, '1') <= pots[1] && many(row, '2') <= pots[2];
    }

    int inside(int sort) {
        return pots[sort] - many(row, (char) ('0' + sort));
    }

    /** The row as text, null if it is none of this sill. */
    String rowText(int row) {
        if (!sillIs() || row < 0) {
            return null;
        }
        String text = Integer.toString(row);
        if (text.length() > places || !text.matches("[012]*")) {
            return null;
        }
        return "0".repeat(places - text.length()) + text;
    }

    static String set(String row, int place, char pot) {
        return row.substring(0, place) + pot + row.substring(place + 1);
    }

    /** The rows to which moves lead, one for each move. */
    List<String> moves(String from, int rightOnDay) {
        List<String> to = new ArrayList<>();
        for (int p = 0; p < places; p++) {
            char pot = from.charAt(p);
            if (pot == '0') {
                to.add(set(from, p, '1'));
                to.add(set(from, p, '2'));
                continue;
            }
            to.add(set(from, p, '0'));
            for (int q = 0; q < places; q++) {
                if (from.charAt(q) == '0'
                    && (rightOnDay < 0 || shine(q, rightOnDay, pot - '0') >= shine(p, rightOnDay, pot - '0'))) {
                    to.add(set(set(from, p, '0'), q, pot));
                }
            }
        }
        to.removeIf(one -> !stands(one));
        return to;
    }

    Map<String, Integer> distances(String from, int rightOnDay) {
        Map<String, Integer> found = new TreeMap<>();
        if (!stands(from)) {
            return found;
        }
        found.put(from, 0);
        ArrayDeque<String> queue = new ArrayDeque<>(List.of(from));
        while (!queue.isEmpty()) {
            String one = queue.poll();
            for (String to : moves(one, rightOnDay)) {
                if (!found.containsKey(to)) {
                    found.put(to, found.get(one) + 1);
                    queue.add(to);
                }
            }
        }
        return found;
    }

    private final Map<String, Map<String, Integer>> near = new HashMap<>();

    Map<String, Integer> distances(String from) {
        String key = places + " " + pots[1] + " " + pots[2] + " " + from;
        if (!near.containsKey(key)) {
            near.put(key, distances(from, -1));
        }
        return near.get(key);
    }

    int says(int book, String row) {
        for (String clause : books.get(book).split(";")) {
            String signs = (clause.substring(2) + ".....").substring(0, places);
            boolean fits = true;
            for (int p = 0; p < places; p++) {
                char sign = signs.charAt(p);
                char pot = row.charAt(p);
                fits &= sign == '?' || sign == '.' && pot == '0' || sign == 'r' && pot == '1'
                    || sign == 'w' && pot == '2';
            }
            if (fits) {
                return clause.charAt(0) - 'a';
            }
        }
        return NONE;
    }

    Set<String> standing() {
        return new TreeSet<>(distances("0".repeat(places)).keySet());
    }

    // ---------------------------------------------------------------- light

    int shine(int place, int ofDay, int sort) {
        return light == null ? 0 : (int) Grammar.worth(light, place, ofDay, sort, places);
    }

    int lightAt(int place, int sort) {
        return place < 0 || place >= places || sort < 1 || sort > 2 ? HIDDEN : shine(place, day, sort);
    }

    boolean light(int number) {
        if (!sillIs() || number < NONE || number >= lights.size()) {
            return false;
        }
        light = number < 0 ? null : lights.get(number);
        return true;
    }

    // ---------------------------------------------------------------- acts

    int at(int place) {
        return place < 0 || place >= places ? -99 : row.charAt(place) - '0';
    }

    private void act() {
        acts.add(new Object[] {row, left, day});
        if (acts.size() > 60) {
            acts.remove(0);
        }
    }

    private int moved(String to) {
        act();
        row = to;
        return --left;
    }

    int put(int place, int sort) {
        if (at(place) != 0 || sort < 1 || sort > 2 || inside(sort) < 1 || left < 1) {
            return NONE;
        }
        return moved(set(row, place, (char) ('0' + sort)));
    }

    int take(int place) {
        return at(place) < 1 || left < 1 ? NONE : moved(set(row, place, '0'));
    }

    int move(int from, int to) {
        if (at(from) < 1 || at(to) != 0 || left < 1) {
            return NONE;
        }
        return moved(set(set(row, from, '0'), to, row.charAt(from)));
    }

    int evening(int book) {
        if (!bookIs(book) || day >= 60) {
            return HIDDEN;
        }
        act();
        dusk();
        return says(book, row);
    }

    private void dusk() {
        while (diary.size() > day) {
            diary.remove(diary.size() - 1);
        }
        diary.add(row);
        day++;
        left = perDay;
    }

    int undo() {
        if (acts.isEmpty()) {
            return NONE;
        }
        Object[] was = acts.remove(acts.size() - 1);
        row = (String) was[0];
        left = (Integer) was[1];
        day = (Integer) was[2];
        return acts.size();
    }

    // ---------------------------------------------------------------- asked

    int saysOf(int book, int row) {
        return !bookIs(book) || rowText(row) == null ? HIDDEN : says(book, rowText(row));
    }

    int between(int one, int other) {
        String from = rowText(one);
        String to = rowText(other);
        return from == null || to == null || !stands(from) || !stands(to) ? NONE : distances(from).get(to);
    }

    private static boolean letterIs(int letter) {
        return letter >= 0 && letter <= 7;
    }

    int nearest(int book, int letter, boolean right, int what) {
        if (!bookIs(book) || !letterIs(letter) || what < 0 || what > 1) {
            return NONE;
        }
        return least(distances(row, right ? day : -1), book, letter, book, letter, what);
    }

    private int least(Map<String, Integer> found, int book, int letter, int other, int two, int what) {
        int best = NONE;
        int steps = 99;
        for (String one : found.keySet()) {
            if (says(book, one) == letter && says(other, one) == two && found.get(one) < steps) {
                steps = found.get(one);
                best = Integer.parseInt(one);
            }
        }
        return best == NONE ? NONE : what == 0 ? steps : best;
    }

    int both(int book, int letter, int other, int two, int what) {
        if (!bookIs(book) || !bookIs(other) || !letterIs(letter) || two != NONE && !letterIs(two)
            || what < 0 || what > 1) {
            return NONE;
        }
        return least(distances(row), book, letter, other, two, what);
    }

    int sayable(int book) {
        if (!bookIs(book)) {
            return NONE;
        }
        int bits = 0;
        for (String one : standing()) {
            bits |= says(book, one) < 0 ? 0 : 1 << says(book, one);
        }
        return bits;
    }

    /** The best way from a row on: moves, then the rows of the evenings; null: none. */
    private List<Integer> way(int book, String word, int i, String from,
                              Map<String, List<Integer>> known) {
        if (i == word.length()) {
            return List.of(0);
        }
        String key = i + from;
        if (known.containsKey(key)) {
            return known.get(key);
        }
        List<Integer> best = null;
        for (Map.Entry<String, Integer> to : distances(from).entrySet()) {
            if (to.getValue() <= (i == 0 ? left : perDay) && says(book, to.getKey()) == word.charAt(i) - 'a') {
                List<Integer> rest = way(book, word, i + 1, to.getKey(), known);
                if (rest != null) {
                    List<Integer> one = new ArrayList<>();
                    one.add(rest.get(0) + to.getValue());
                    one.add(Integer.parseInt(to.getKey()));
                    one.addAll(rest.subList(1, rest.size()));
                    best = best == null || Arrays.compare(array(one), array(best)) < 0 ? one : best;
                }
            }
        }
        known.put(key, best);
        return best;
    }

    private static int[] array(List<Integer> numbers) {
        return numbers.stream().mapToInt(Integer::intValue).toArray();
    }

    int word(int book, int word, int what) {
        if (!bookIs(book) || word < 0 || word >= words.size() || what < 0 || what > 1) {
            return NONE;
        }
        List<Integer> way = way(book, words.get(word), 0, row, new HashMap<>());
        return way == null ? NONE : way.get(what);
    }

    int soonest(int book, int word) {
        if (!bookIs(book) || word < 0 || word >= words.size()) {
            return NONE;
        }
        String text = words.get(word);
        Set<String> now = new HashSet<>(Set.of("0" + row));
        for (int k = 1; k <= 60; k++) {
            Set<String> next = new HashSet<>();
            for (String state : now) {
                int said = state.charAt(0) - '0';
                for (Map.Entry<String, Integer> to : distances(state.substring(1)).entrySet()) {
                    int letter = says(book, to.getKey());
                    if (to.getValue() <= (k == 1 ? left : perDay)) {
                        if (letter < 0) {
                            next.add(said + to.getKey());
                        } else if (letter == text.charAt(said) - 'a') {
                            if (said + 1 == text.length()) {
                                return k;
                            }
                            next.add((said + 1) + to.getKey());
                        }
                    }
                }
            }
            now = next;
        }
        return NONE;
    }

    int aunt(int book, int letter, int what) {
        if (!bookIs(book) || letter != NONE && !letterIs(letter) || what < 0 || what > 1) {
            return HIDDEN;
        }
        List<String> ways = moves(row, -1);
        ways.add(row);
        int saying = 0;
        for (String one : ways) {
            saying += says(book, one) == letter ? 1 : 0;
        }
        return what == 0 ? saying : ways.size();
    }

    int safe(int book, int letter, int i) {
        if (!bookIs(book) || !letterIs(letter)) {
            return NONE;
        }
        List<Integer> safe = new ArrayList<>();
        for (String one : standing()) {
            boolean is = says(book, one) == letter;
            for (String to : moves(one, -1)) {
                is &= says(book, to) == NONE || says(book, to) == letter;
            }
            if (is) {
                safe.add(Integer.parseInt(one));
            }
        }
        return i == NONE ? safe.size() : i < 0 || i >= safe.size() ? NONE : safe.get(i);
    }

    int gap(int book) {
        if (!bookIs(book)) {
            return NONE;
        }
        int gap = 99;
        for (String one : standing()) {
            for (Map.Entry<String, Integer> to : distances(one).entrySet()) {
                if (says(book, one) >= 0 && says(book, to.getKey()) >= 0
                    && says(book, one) != says(book, to.getKey())) {
                    gap = Math.min(gap, to.getValue());
                }
            }
        }
        return gap == 99 ? NONE : gap;
    }

    int read(int book, int number) {
        String from = rowText(number);
        if (!bookIs(book) || from == null || !stands(from)) {
            return HIDDEN;
        }
        for (int steps = 0; steps < 99; steps++) {
            Set<Integer> letters = new HashSet<>();
            for (Map.Entry<String, Integer> to : distances(from).entrySet()) {
                if (to.getValue() == steps && says(book, to.getKey()) >= 0) {
                    letters.add(says(book, to.getKey()));
                }
            }
            if (!letters.isEmpty()) {
                return letters.size() == 1 ? letters.iterator().next() : NONE;
            }
        }
        return NONE;
    }

    // ---------------------------------------------------------------- seen and told

    int see(int ofDay, int place, int what) {
        if (ofDay < 1 || ofDay > 6 || place < 0 || place >= places || what < 0 || what > 2 || seen.size() >= 12) {
            return NONE;
        }
        seen.add(new int[] {ofDay, place, what});
        return seen.size();
    }

    long ways(int n) {
        return !sillIs() || n < 1 || n > 6 ? NONE : count(1, n, row, 0, 0, NONE, new HashMap<>());
    }

    long likely(int book, int n, int ofDay, int letter) {
        if (!bookIs(book) || n < 1 || n > 6 || ofDay < 1 || ofDay > n || letter != NONE && !letterIs(letter)) {
            return NONE;
        }
        return count(1, n, row, book, ofDay, letter, new HashMap<>());
    }

    private long count(int k, int n, String from, int book, int ofDay, int letter, Map<String, Long> known) {
        if (k > n) {
            return 1;
        }
        String key = k + from;
        if (known.containsKey(key)) {
            return known.get(key);
        }
        long sum = 0;
        for (Map.Entry<String, Integer> to : distances(from).entrySet()) {
            boolean fits = to.getValue() <= (k == 1 ? left : perDay);
            for (int[] one : seen) {
                fits &= one[0] != k || to.getKey().charAt(one[1]) - '0' == one[2];
            }
            if (fits && (k != ofDay || says(book, to.getKey()) == letter)) {
                sum += count(k + 1, n, to.getKey(), book, ofDay, letter, known);
            }
        }
        known.put(key, sum);
        return sum;
    }

    int tell(int number, int letter) {
        if (rowText(number) == null || !letterIs(letter) || told.size() >= 12) {
            return NONE;
        }
        told.add(new Object[] {rowText(number), letter});
        return told.size();
    }

    int agree() {
        if (!sillIs()) {
            return NONE;
        }
        int bits = 0;
        for (int book = 0; book < books.size(); book++) {
            boolean all = true;
            for (Object[] one : told) {
                all &= says(book, (String) one[0]) == (Integer) one[1];
            }
            bits |= all ? 1 << book : 0;
        }
        return bits;
    }

    int apart() {
        if (!sillIs()) {
            return NONE;
        }
        List<Integer> sets = new ArrayList<>();
        for (int bits = 0; bits < 32; bits++) {
            sets.add(bits);
        }
        // A stable sort: of as many places the least number stays ahead.
        sets.sort((a, b) -> Integer.bitCount(a) - Integer.bitCount(b));
        for (int bits : sets) {
            Map<String, Set<Object>> letters = new HashMap<>();
            for (Object[] one : told) {
                StringBuilder part = new StringBuilder();
                for (int p = 0; p < places; p++) {
                    part.append((bits & 1 << p) != 0 ? ((String) one[0]).charAt(p) : '-');
                }
                letters.computeIfAbsent(part.toString(), key -> new HashSet<>()).add(one[1]);
            }
            boolean apart = true;
            for (Set<Object> some : letters.values()) {
                apart &= some.size() == 1;
            }
            if (apart) {
                return bits;
            }
        }
        return NONE;
    }

    // ---------------------------------------------------------------- frost, draws, images

    int frost(int sort) {
        if (!sillIs() || sort < 1 || sort > 2 || inside(sort) < 1) {
            return NONE;
        }
        acts.clear();
        return --pots[sort];
    }

    int drawn(int n, long seed) {
        if (!sillIs() || n < 1 || n > 20 || day + n > 60) {
            return NONE;
        }
        long x = seed;
        for (int i = 0; i < n; i++) {
            x = x * 6364136223846793005L + 1442695040888963407L;
            List<String> ways = moves(row, -1);
            Collections.sort(ways);
            ways.add(0, row);
            row = ways.get((int) ((x >>> 33) % ways.size()));
            dusk();
        }
        acts.clear();
        return day;
    }

    int diary(int ofDay) {
        return ofDay < 0 || ofDay >= day ? NONE : Integer.parseInt(diary.get(ofDay));
    }

    int image() {
        if (!sillIs()) {
            return NONE;
        }
        image = new Object[] {row, day, left, pots.clone(), new ArrayList<>(diary)};
        return day;
    }

    @SuppressWarnings("unchecked")
    int back() {
        if (image == null) {
            return NONE;
        }
        row = (String) image[0];
        day = (Integer) image[1];
        left = (Integer) image[2];
        pots = ((int[]) image[3]).clone();
        diary = new ArrayList<>((List<String>) image[4]);
        acts.clear();
        return day;
    }

    int count(int what) {
        int[] all = {places, pots[1], pots[2], perDay, left, day,
            row.isEmpty() ? 0 : Integer.parseInt(row), books.size(), words.size(), lights.size(),
            tape.length(), acts.size(), seen.size(), told.size()};
        return what < 0 || what >= all.length ? HIDDEN : all[what];
    }
}
