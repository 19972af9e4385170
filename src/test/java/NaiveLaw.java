import java.util.ArrayList;
import java.util.HashMap;
import java.util.HashSet;
import java.util.LinkedHashSet;
import java.util.List;
import java.util.Map;
import java.util.Set;

/**
 * LAWS read by their grammar as it stands in the document (with a chart of all readings, so that the first byte at
 * which no text can go on comes from the grammar itself), and worked out by cutting the text at its weakest sign.
 */
final class NaiveLaw {
    private static final Map<String, List<String[]>> GRAMMAR = grammar();
    private static final String START = "LAW";

    private NaiveLaw() {
    }

    private static Map<String, List<String[]>> grammar() {
        Map<String, List<String[]>> g = new HashMap<>();
        rule(g, "LAW", "CLAUSES");
        rule(g, "CLAUSES", "CLAUSE");
        rule(g, "CLAUSES", "CLAUSES ; CLAUSE");
        rule(g, "CLAUSE", "y : SUM0");
        rule(g, "CLAUSE", "y : CONDITION0 ? SUM0");
        for (int k = 0; k <= 6; k++) {
            rule(g, "CONDITION" + k, "TRUTH" + k);
            rule(g, "CONDITION" + k, "CONDITION" + k + " | TRUTH" + k);
            rule(g, "TRUTH" + k, "UNIT" + k);
            rule(g, "TRUTH" + k, "TRUTH" + k + " & UNIT" + k);
            for (String sign : new String[] {"=", "<", ">"}) {
                rule(g, "UNIT" + k, "SUM" + k + " " + sign + " SUM" + k);
            }
            rule(g, "SUM" + k, "TERM" + k);
            rule(g, "SUM" + k, "SUM" + k + " + TERM" + k);
            rule(g, "SUM" + k, "SUM" + k + " - TERM" + k);
            rule(g, "TERM" + k, "ATOM" + k);
            rule(g, "TERM" + k, "TERM" + k + " * ATOM" + k);
            rule(g, "TERM" + k, "TERM" + k + " / ATOM" + k);
            for (String letter : new String[] {"d", "w", "m", "n", "o", "#", "# #", "# # #", "# # # #"}) {
                rule(g, "ATOM" + k, letter);
            }
            if (k < 6) {
                rule(g, "UNIT" + k, "! UNIT" + (k + 1));
                rule(g, "UNIT" + k, "( CONDITION" + (k + 1) + " )");
                rule(g, "ATOM" + k, "[ SUM" + (k + 1) + " ]");
            }
        }
        return g;
    }

    private static void rule(Map<String, List<String[]>> g, String name, String parts) {
        g.computeIfAbsent(name, x -> new ArrayList<>()).add(parts.split(" "));
    }

    /** One reading under way: a rule, how much of it was read, where it began. */
    private record Reading(String name, String[] parts, int read, int from) {
        String next() {
            return read < parts.length ? parts[read] : null;
        }

        String key() {
            return name + "=" + String.join(" ", parts) + "@" + read + "," + from;
        }
    }

    private static final class Column {
        final List<Reading> readings = new ArrayList<>();
        private final Set<String> keys = new HashSet<>();

        void add(Reading reading) {
            if (keys.add(reading.key())) {
                readings.add(reading);
            }
        }
    }

    static int fault(String text) {
        List<Column> columns = new ArrayList<>();
        Column now = new Column();
        for (String[] parts : GRAMMAR.get(START)) {
            now.add(new Reading(START, parts, 0, 0));
        }
        columns.add(now);
        close(columns);
        for (int i = 0; i < text.length(); i++) {
            char sign = text.charAt(i);
            if (sign == ' ') {
                continue;
            }
            Column then = new Column();
            boolean digit = sign >= '0' && sign <= '9';
            boolean goesOn = digit && i > 0 && text.charAt(i - 1) == ' ';
            for (Reading r : now.readings) {
                boolean withinNumber = r.read > 0 && r.parts[r.read - 1].equals("#");
                if (goesOn && withinNumber) {
                    continue;
                }
                if (r.next() != null && r.next().equals(digit ? "#" : String.valueOf(sign))) {
                    then.add(new Reading(r.name, r.parts, r.read + 1, r.from));
                }
            }
            if (then.readings.isEmpty()) {
                return i;
            }
            columns.add(then);
            close(columns);
            now = then;
        }
        for (Reading r : now.readings) {
            if (r.name.equals(START) && r.next() == null && r.from == 0) {
                return -1;
            }
        }
        return text.length();
    }

    private static void close(List<Column> columns) {
        int at = columns.size() - 1;
        Column now = columns.get(at);
        for (int i = 0; i < now.readings.size(); i++) {
            Reading r = now.readings.get(i);
            if (r.next() == null) {
                List<Reading> waiting = new ArrayList<>(columns.get(r.from).readings);
                for (Reading w : waiting) {
                    if (r.name.equals(w.next())) {
                        now.add(new Reading(w.name, w.parts, w.read + 1, w.from));
                    }
                }
            } else if (GRAMMAR.containsKey(r.next())) {
                for (String[] parts : GRAMMAR.get(r.next())) {
                    now.add(new Reading(r.next(), parts, 0, at));
                }
            }
        }
    }

    static int worth(String text, Map<Character, Integer> letters) {
        for (String clause : text.replace(" ", "").split(";")) {
            String rest = clause.substring(2);
            int mark = rest.indexOf('?');
            if (mark < 0) {
                return (int) sum(rest, letters);
            }
            if (holds(rest.substring(0, mark), letters)) {
                return (int) sum(rest.substring(mark + 1), letters);
            }
        }
        return 0;
    }

    private static boolean holds(String text, Map<Character, Integer> letters) {
        int at = lastOf(text, "|");
        if (at >= 0) {
            return holds(text.substring(0, at), letters) | holds(text.substring(at + 1), letters);
        }
        at = lastOf(text, "&");
        if (at >= 0) {
            return holds(text.substring(0, at), letters) & holds(text.substring(at + 1), letters);
        }
        if (text.charAt(0) == '!') {
            return !holds(text.substring(1), letters);
        }
        if (text.charAt(0) == '(') {
            return holds(text.substring(1, text.length() - 1), letters);
        }
        at = lastOf(text, "=<>");
        long left = sum(text.substring(0, at), letters);
        long right = sum(text.substring(at + 1), letters);
        return text.charAt(at) == '=' ? left == right : text.charAt(at) == '<' ? left < right : left > right;
    }

    private static long sum(String text, Map<Character, Integer> letters) {
        int at = lastOf(text, "+-");
        if (at < 0) {
            at = lastOf(text, "*/");
        }
        if (at < 0) {
            if (text.charAt(0) == '[') {
                return sum(text.substring(1, text.length() - 1), letters);
            }
            Integer letter = letters.get(text.charAt(0));
            return letter != null ? letter : Long.parseLong(text);
        }
        long left = sum(text.substring(0, at), letters);
        long right = sum(text.substring(at + 1), letters);
        long value = switch (text.charAt(at)) {
            case '+' -> left + right;
            case '-' -> left - right;
            case '*' -> left * right;
            default -> right == 0 ? 0 : left / right;
        };
        return Math.max(-1000000L, Math.min(1000000L, value));
    }

    /** Where the last of these signs stands that is within no brackets. */
    private static int lastOf(String text, String signs) {
        int depth = 0;
        int found = -1;
        for (int i = 0; i < text.length(); i++) {
            char sign = text.charAt(i);
            if (sign == '(' || sign == '[') {
                depth++;
            } else if (sign == ')' || sign == ']') {
                depth--;
            } else if (depth == 0 && signs.indexOf(sign) >= 0) {
                found = i;
            }
        }
        return found;
    }
}
