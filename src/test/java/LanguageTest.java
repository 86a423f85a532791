import java.nio.file.Files;
import java.nio.file.Path;
import java.util.ArrayList;
import java.util.List;
import java.util.Set;
import java.util.TreeSet;
import java.util.regex.Matcher;
import java.util.regex.Pattern;

/** The rules of LANGUAGE.md that can be told from the text of the source. */
public final class LanguageTest {
    private static final Path SOURCE = Path.of("src/main/java/FlowerPots.java");
    private static final String[] FORBIDDEN = {
        "\\bcatch\\b", "\\btry\\b", "\\bfinally\\b", "\\bsynchronized\\b", "\\bassert\\b", "->", "::", "\\binstanceof\\b",
        "\\bpackage\\b", "\\bprotected\\b", "\\bequals\\b", "\\bhashCode\\b", "\\btoString\\b", "\\bSystem\\.(?!arraycopy)",
        "\\bThread\\b", "\\bObject\\b", "\\bStringBuilder\\b", "@", "\\bfloat\\b", "\\bdouble\\b", "Exact\\b",
        "\\bstatic \\{", "\\bvar\\b", "\\brecord\\b", "\\bnull\\s*\\."};
    private static final Set<String> IMPORTS =
        Set.of("import java.util.ArrayList;", "import java.util.NoSuchElementException;");
    private static final Pattern METHOD =
        Pattern.compile("^    (    )?(?! )[^=;{]*\\([^;]*\\)[^;=]*\\{$");

    private LanguageTest() {
    }

    public static void main(String[] args) throws Exception {
        List<String> lines = Files.readAllLines(SOURCE);
        List<String> plain = withoutComments(lines);
        forbidden(plain);
        imports(plain);
        lengths(plain);
        throwsAndStatics(plain);
        depthOfCalls(plain);
        Checks.end("LanguageTest");
    }

    private static List<String> withoutComments(List<String> lines) {
        List<String> plain = new ArrayList<>();
        boolean comment = false;
        for (String line : lines) {
            String text = line;
            if (text.strip().startsWith("/**")) {
                comment = true;
            }
            boolean ends = comment && text.contains("*/");
            plain.add(comment ? "" : text.replaceAll("//.*", ""));
            comment = comment && !ends;
        }
        return plain;
    }

    private static void forbidden(List<String> lines) {
        for (int i = 0; i < lines.size(); i++) {
            for (String pattern : FORBIDDEN) {
                boolean found = Pattern.compile(pattern).matcher(lines.get(i)).find();
                Checks.due("line " + (i + 1) + " has " + pattern, found, false);
            }
            boolean plain = lines.get(i).chars().allMatch(c -> c >= 32 && c < 127);
            Checks.due("line " + (i + 1) + " has plain signs", plain, true);
            Checks.due("line " + (i + 1) + " is short", lines.get(i).length() <= 110, true);
        }
    }

    private static void imports(List<String> lines) {
        for (String line : lines) {
            if (line.startsWith("import")) {
                Checks.due(line, IMPORTS.contains(line), true);
            }
        }
    }

    private static void lengths(List<String> lines) {
        int classes = 0;
        for (int i = 0; i < lines.size(); i++) {
            String line = lines.get(i);
            classes += line.matches(".*\\bclass \\w+.*") ? 1 : 0;
            if (isMethod(line)) {
                int end = endOf(lines, i);
                Checks.due("the method in line " + (i + 1) + " is short", end - i <= 60, true);
                String inside = line.substring(line.indexOf('(') + 1, line.lastIndexOf(')')).trim();
                int parameters = inside.isEmpty() ? 0 : inside.split(",").length;
                Checks.due("the method in line " + (i + 1) + " has few parameters", parameters <= 7, true);
            }
        }
        Checks.due("some twelve classes", classes <= 12, true);
    }

    private static boolean isMethod(String line) {
        return METHOD.matcher(line).matches() && !line.contains(" class ")
            && !line.strip().matches("(if|for|while|switch|\\}|else).*");
    }

    /** The line with the brace that ends what begins in a line. */
    private static int endOf(List<String> lines, int first) {
        String indent = lines.get(first).substring(0, lines.get(first).indexOf(lines.get(first).strip()));
        for (int i = first + 1; i < lines.size(); i++) {
            if (lines.get(i).equals(indent + "}")) {
                return i;
            }
        }
        return lines.size();
    }

    private static void throwsAndStatics(List<String> lines) {
        int thrown = 0;
        for (int i = 0; i < lines.size(); i++) {
            String line = lines.get(i).strip();
            thrown += line.startsWith("throw ") ? 1 : 0;
            boolean field = line.contains("static ") && line.endsWith(";");
            Checks.due("static state in line " + (i + 1), field && !line.contains("final"), false);
        }
        Checks.due("only at throws", thrown, 1);
    }

    // ---------------------------------------------------------------- how deep calls go

    private static final Pattern CALL = Pattern.compile("\\b([a-zA-Z]\\w*)\\(");

    /** Methods by name and the names that they call; what calls itself round about counts once. */
    private static void depthOfCalls(List<String> lines) {
        List<String> names = new ArrayList<>();
        List<Set<String>> called = new ArrayList<>();
        for (int i = 0; i < lines.size(); i++) {
            if (isMethod(lines.get(i))) {
                Matcher name = CALL.matcher(lines.get(i));
                name.find();
                Set<String> calls = new TreeSet<>();
                for (int k = i + 1; k < endOf(lines, i); k++) {
                    Matcher call = CALL.matcher(lines.get(k));
                    while (call.find()) {
                        calls.add(call.group(1));
                    }
                }
                int known = names.indexOf(name.group(1));
                if (known >= 0) {
                    called.get(known).addAll(calls);
                } else {
                    names.add(name.group(1));
                    called.add(calls);
                }
            }
        }
        Checks.due("methods were found", names.size() > 100, true);
        for (int i = 0; i < names.size(); i++) {
            int deep = deepest(i, names, called, new ArrayList<>());
            Checks.due("calls from " + names.get(i) + " go " + deep + " deep", deep <= 8, true);
        }
    }

    /** Condition, truth and unit, and sum, term and atom, call one another: each three count once. */
    private static String group(String name) {
        switch (name) {
            case "readTruth":
            case "readUnit":
                return "readCondition";
            case "readTerm":
            case "readAtom":
                return "readSum";
            default:
                return name;
        }
    }

    private static int deepest(int i, List<String> names, List<Set<String>> called, List<String> open) {
        String name = names.get(i);
        if (open.contains(name)) {
            return 0;
        }
        open.add(name);
        int deepest = 0;
        for (String one : called.get(i)) {
            int k = names.indexOf(one);
            if (k >= 0) {
                int step = group(one).equals(group(name)) ? 0 : 1;
                deepest = Math.max(deepest, deepest(k, names, called, open) - 1 + step);
            }
        }
        open.remove(open.size() - 1);
        return deepest + 1;
    }
}
