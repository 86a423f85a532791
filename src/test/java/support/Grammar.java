import java.util.ArrayDeque;
import java.util.HashSet;
import java.util.Set;

/**
 * The texts of the document as a grammar: a set of stacks of what may come goes on byte by byte,
 * and the first byte behind which the set is empty is the fault. Worths are reckoned by cutting
 * a text at its weakest sign.
 *
 * <p>A stack is a text of pairs, the top first: a kind and a number. The kinds ' and " stand for
 * signs, the others for parts of texts.
 */
final class Grammar {
    private Grammar() {
    }

    static int fault(int sort, String text) {
        Set<String> stacks = open(Set.of(sort == 0 ? "I0" : sort == 1 ? "B0" : sort == 2 ? "W0" : "L0"));
        for (int i = 0; i < text.length(); i++) {
            char c = text.charAt(i);
            Set<String> next = new HashSet<>();
            for (String stack : stacks) {
                char kind = stack.isEmpty() ? '\'' : stack.charAt(0);
                if (c == ' ' && kind == '\'') {
                    next.add(stack);
                } else if (c != ' ' && isSign(kind) && stack.length() > 1 && stack.charAt(1) == c) {
                    next.add(stack.substring(2));
                }
            }
            stacks = open(next);
            if (stacks.isEmpty()) {
                return i;
            }
        }
        return stacks.contains("") ? -1 : text.length();
    }

    /** Opens all parts on top until a sign, the rest of a number, or nothing is there. */
    private static Set<String> open(Set<String> stacks) {
        Set<String> all = new HashSet<>();
        ArrayDeque<String> queue = new ArrayDeque<>(stacks);
        while (!queue.isEmpty()) {
            String stack = queue.poll();
            if (!all.add(stack) || stack.isEmpty() || isSign(stack.charAt(0))) {
                continue;
            }
            String rest = stack.substring(2);
            for (String way : ways(stack.charAt(0), stack.charAt(1) - '0')) {
                queue.add(way + rest);
            }
        }
        return all;
    }

    /** The kind ' may have blanks ahead, the kind " (in numbers) may not. */
    private static boolean isSign(char kind) {
        return kind == '\'' || kind == '"';
    }

    private static String digits(char low, char high, String rest) {
        StringBuilder all = new StringBuilder();
        for (char c = low; c <= high; c++) {
            all.append(all.length() > 0 ? "," : "").append("'").append(c).append(rest);
        }
        return all.toString();
    }

    private static String[] ways(char kind, int k) {
        switch (kind) {
            case 'I':
                return digits('2', '5', "i0").replace("'", "'n'").split(",");
            case 'i':
                return items(k).split(",", -1);
            case 'B':
                return firstClause().split(",");
            case 'b':
                return clausesBehind(k).split(",", -1);
            case 'l':
                return digits('a', 'h', "").split(",");
            case 's':
                return k == 0 ? new String[] {""} : signs("s" + (k - 1)).split(",");
            case 'W':
                return new String[] {"l0w7"};
            case 'w':
                return k == 0 ? new String[] {""} : new String[] {"", "l0w" + (k - 1)};
            default:
                return lightWays(kind, k).split(",", -1);
        }
    }

    /** Items of a sill; k tells by bits which were there. */
    private static String items(int k) {
        String all = "";
        all += (k & 1) == 0 ? "," + digits('0', '5', "i" + (k | 1)).replace("'", "'r'") : "";
        all += (k & 2) == 0 ? "," + digits('0', '5', "i" + (k | 2)).replace("'", "'w'") : "";
        all += (k & 4) == 0 ? "," + digits('1', '5', "i" + (k | 4)).replace("'", "'d'") : "";
        return all;
    }

    private static String signs(String rest) {
        return "'." + rest + ",'r" + rest + ",'w" + rest + ",'?" + rest;
    }

    /** The first clause settles the width; b has eight times the width less 2 and the clauses. */
    private static String firstClause() {
        StringBuilder all = new StringBuilder();
        for (int width = 2; width <= 5; width++) {
            all.append(width > 2 ? "," : "").append("l0'=s").append(width)
                .append("b").append((char) ('0' + (width - 2) * 8 + 7));
        }
        return all.toString();
    }

    private static String clausesBehind(int k) {
        int width = k / 8 + 2;
        int more = k % 8;
        return more == 0 ? "" : ",';l0'=s" + width + "b" + (char) ('0' + k - 1);
    }

    private static String lightWays(char kind, int k) {
        String deeper = k < 6 ? Integer.toString(k + 1) : null;
        switch (kind) {
            case 'L':
                return "'y':C0M0";
            case 'M':
                return ",';'y':C0M0";
            case 'C':
                return "S0,K0'?S0";
            case 'K':
                return "T" + k + "k" + k;
            case 'k':
                return ",'|T" + k + "k" + k;
            case 'T':
                return "U" + k + "t" + k;
            case 't':
                return ",'&U" + k + "t" + k;
            case 'U':
                String compared = "S" + k + "'=S" + k + ",S" + k + "'<S" + k + ",S" + k + "'>S" + k;
                return compared + (deeper == null ? "" : ",'!U" + deeper + ",'(K" + deeper + "')");
            case 'S':
                return "P" + k + "q" + k;
            case 'q':
                return ",'+P" + k + "q" + k + ",'-P" + k + "q" + k;
            case 'P':
                return "A" + k + "a" + k;
            case 'a':
                return ",'*A" + k + "a" + k + ",'/A" + k + "a" + k;
            case 'A':
                return "'p,'d,'s,'n," + digits('0', '9', "N3")
                    + (deeper == null ? "" : ",'[S" + deeper + "']");
            case 'N':
                return k == 0 ? "" : "," + digits('0', '9', "N" + (k - 1)).replace('\'', '"');
            default:
                throw new IllegalStateException("no such part " + kind);
        }
    }

    // ---------------------------------------------------------------- worths

    static long worth(String text, int p, int d, int s, int n) {
        long[] letters = {p, d, s, n};
        for (String clause : text.replace(" ", "").split(";")) {
            String told = clause.substring(2);
            int mark = told.indexOf('?');
            if (mark < 0 || holds(told.substring(0, mark), letters)) {
                return sum(told.substring(mark + 1), letters);
            }
        }
        return 0;
    }

    /** The last of some signs that stands in no brackets; -1: none. */
    private static int last(String text, String signs) {
        int depth = 0;
        for (int i = text.length() - 1; i >= 0; i--) {
            char c = text.charAt(i);
            depth += c == ')' || c == ']' ? 1 : c == '(' || c == '[' ? -1 : 0;
            if (depth == 0 && signs.indexOf(c) >= 0) {
                return i;
            }
        }
        return -1;
    }

    private static boolean holds(String text, long[] letters) {
        int i = last(text, "|");
        if (i >= 0) {
            return holds(text.substring(0, i), letters) | holds(text.substring(i + 1), letters);
        }
        i = last(text, "&");
        if (i >= 0) {
            return holds(text.substring(0, i), letters) & holds(text.substring(i + 1), letters);
        }
        if (text.startsWith("!")) {
            return !holds(text.substring(1), letters);
        }
        if (text.startsWith("(")) {
            return holds(text.substring(1, text.length() - 1), letters);
        }
        i = last(text, "=<>");
        int order = Long.compare(sum(text.substring(0, i), letters), sum(text.substring(i + 1), letters));
        return text.charAt(i) == '=' ? order == 0 : text.charAt(i) == '<' ? order < 0 : order > 0;
    }

    private static long sum(String text, long[] letters) {
        int i = last(text, "+-");
        i = i < 0 ? last(text, "*/") : i;
        if (i >= 0) {
            long one = sum(text.substring(0, i), letters);
            long other = sum(text.substring(i + 1), letters);
            switch (text.charAt(i)) {
                case '+':
                    return bound(one + other);
                case '-':
                    return bound(one - other);
                case '*':
                    return bound(one * other);
                default:
                    return other == 0 ? 0 : bound(one / other);
            }
        }
        if (text.startsWith("[")) {
            return sum(text.substring(1, text.length() - 1), letters);
        }
        int letter = "pdsn".indexOf(text.charAt(0));
        return letter >= 0 ? letters[letter] : Long.parseLong(text);
    }

    private static long bound(long number) {
        return number > 1000000 ? 1000000 : number < -1000000 ? -1000000 : number;
    }
}
