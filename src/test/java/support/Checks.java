import java.nio.charset.StandardCharsets;
import java.util.NoSuchElementException;

/** What the tests share: checks that are counted, and texts that are fed. */
final class Checks {
    private static int checked = 0;
    private static int wrong = 0;

    private Checks() {
    }

    static void due(String what, long got, long want) {
        checked++;
        if (got != want) {
            wrong++;
            System.out.println(what + ": answered " + got + ", due is " + want);
        }
    }

    static void due(String what, boolean got, boolean want) {
        due(what, got ? 1 : 0, want ? 1 : 0);
    }

    /** A call of at that has to throw. */
    static void noSuchPlace(String what, FlowerPots pots, int place) {
        checked++;
        try {
            int got = pots.at(place);
            wrong++;
            System.out.println(what + ": answered " + got + ", a NoSuchElementException is due");
        } catch (NoSuchElementException e) {
            return;
        }
    }

    /** Empties the tape and feeds a text; answers what the last feed answered. */
    static int write(FlowerPots pots, String text) {
        pots.end(0);
        return add(pots, text);
    }

    static int add(FlowerPots pots, String text) {
        byte[] bytes = text.getBytes(StandardCharsets.ISO_8859_1);
        int answer = pots.count(10);
        for (int first = 0; first < bytes.length; first += 20) {
            int[] numbers = new int[5];
            for (int i = 0; i < 20; i++) {
                int sign = first + i < bytes.length ? bytes[first + i] & 255 : 0;
                numbers[i / 4] |= sign << (24 - i % 4 * 8);
            }
            answer = pots.feed(numbers[0], numbers[1], numbers[2], numbers[3], numbers[4]);
        }
        return answer;
    }

    /** Writes a text and makes it one of a sort. */
    static int text(FlowerPots pots, int sort, String text) {
        write(pots, text);
        return pots.text(sort);
    }

    /** The fault of a text of a sort, on an object of its own. */
    static int fault(int sort, String text) {
        FlowerPots pots = new FlowerPots();
        write(pots, text);
        return pots.fault(sort);
    }

    /** An object with a sill, and books behind it. */
    static FlowerPots made(String sill, String... books) {
        FlowerPots pots = new FlowerPots();
        text(pots, 0, sill);
        for (String book : books) {
            text(pots, 1, book);
        }
        return pots;
    }

    /** Ends the test: exit code 1 if a check was wrong. */
    static void end(String name) {
        System.out.println(name + ": " + (checked - wrong) + " of " + checked + " checks are as due");
        if (wrong != 0 || checked == 0) {
            System.exit(1);
        }
    }
}
