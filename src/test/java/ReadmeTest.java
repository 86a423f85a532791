import java.lang.reflect.Method;
import java.lang.reflect.Modifier;
import java.nio.file.Files;
import java.nio.file.Path;
import java.util.ArrayList;
import java.util.List;
import java.util.regex.Matcher;
import java.util.regex.Pattern;

/** The example of README.md: each of its calls answers what the page tells, in its order. */
public final class ReadmeTest {
    private static final Pattern TOLD = Pattern.compile("^pots\\.(\\w+\\(.*\\));\\s+// (-?\\d+):");

    private ReadmeTest() {
    }

    public static void main(String[] args) throws Exception {
        FlowerPots pots = new FlowerPots();
        List<String> calls = new ArrayList<>();
        List<Integer> answers = new ArrayList<>();
        pots.feed(0x6E337231, 0x77316432, 0, 0, 0);
        calls.add("text(0)");
        answers.add(pots.text(0));
        pots.feed(0x613D722E, 0x2E3B623D, 0x2E773F00, 0, 0);
        calls.add("text(1)");
        answers.add(pots.text(1));
        calls.add("put(0, 1)");
        answers.add(pots.put(0, 1));
        calls.add("evening(0)");
        answers.add(pots.evening(0));
        calls.add("nearest(0, 1, false, 1)");
        answers.add(pots.nearest(0, 1, false, 1));

        int found = 0;
        for (String line : Files.readAllLines(Path.of("README.md"))) {
            Matcher told = TOLD.matcher(line);
            if (told.find()) {
                boolean known = found < calls.size() && calls.get(found).equals(told.group(1));
                Checks.due("the test has the page's call " + told.group(1), known, true);
                Checks.due(told.group(1), known ? answers.get(found) : 0, Integer.parseInt(told.group(2)));
                found++;
            }
        }
        Checks.due("all calls of the test stand on the page", found, calls.size());
        everyCallStandsThere();
        Checks.end("ReadmeTest");
    }

    /** The table names every call of the face. */
    private static void everyCallStandsThere() throws Exception {
        String page = Files.readString(Path.of("README.md"));
        for (Method method : FlowerPots.class.getDeclaredMethods()) {
            if (Modifier.isPublic(method.getModifiers())) {
                Checks.due("the page names " + method.getName(), page.contains("`" + method.getName() + "`"), true);
            }
        }
    }
}
