import java.util.ArrayList;
import java.util.HashMap;
import java.util.IdentityHashMap;
import java.util.List;
import java.util.Map;
import java.util.regex.Matcher;
import java.util.regex.Pattern;

/**
 * The document's Terms once more, with other means than the class has (regular expressions, an object for each node),
 * so that a slip in one of the two shows where they do not agree.
 */
final class SecondReader {
    private static final String BEGINNING = "(?:[A-Za-z0-9_.+/~(<=$^]|-(?=[^ ]))";
    private static final String QUOTED_TEXT = "(?:'(?:[^']|'')*+'|\"(?:[^\"\\\\]|\\\\[\\\\\"n])*+\")";
    private static final Pattern DASH = Pattern.compile("-(?: +|\\z)");
    private static final Pattern PART_NAMING = Pattern.compile("&([a-z])(?: +|\\z)");
    private static final Pattern VALUE_NAMING = Pattern.compile("&([a-z]) +");
    private static final Pattern REPEAT = Pattern.compile("\\*([a-z])");
    private static final Pattern QUOTED = Pattern.compile(QUOTED_TEXT);
    private static final Pattern COLON = Pattern.compile(":(?= |\\z)");
    private static final Pattern COLON_INSIDE = Pattern.compile(":(?=[ ,\\[\\]{}]|\\z)");
    private static final Pattern KEY = Pattern.compile("(" + QUOTED_TEXT + "|" + BEGINNING + ".*?):(?: +|\\z)");
    private static final Pattern KEY_INSIDE =
        Pattern.compile("(" + QUOTED_TEXT + "|" + BEGINNING + "[^,\\[\\]{}]*?):(?=[ ,\\[\\]{}]|\\z)");
    private static final Pattern NO_VALUE = Pattern.compile(" *(?=[,}])");
    private static final Pattern BLANKS = Pattern.compile(" +");
    private static final Pattern PLAIN = Pattern.compile(BEGINNING + ".*");
    private static final Pattern PLAIN_INSIDE = Pattern.compile(BEGINNING + "[^,\\[\\]{}]*");

    private static final class Node {
        private int place;
        private int kind;
        private long number;
        private String string = "";
        private final List<Node> keys = new ArrayList<>();
        private final List<Node> items = new ArrayList<>();
    }

    private static final class Wrong extends RuntimeException {
        private static final long serialVersionUID = 1L;
    }

    private final String[] lines;
    private final List<Node> nodes = new ArrayList<>();
    private final Map<String, Node> named = new HashMap<>();
    private String naming = null;
    // The line that is next behind what has been read in lines.
    private int next;
    // The line that values are read from, without blanks at its end, and the place in it.
    private String source = "";
    private int at;

    private SecondReader(String text) {
        lines = text.split("\n", -1);
    }

    /** What is read; null when the text is wrong. */
    static SecondReader read(String text) {
        SecondReader reader = new SecondReader(text);
        try {
            reader.outermost();
            return reader;
        } catch (Wrong e) {
            return null;
        }
    }

    /** The same as Due.looks of a new object that has loaded the text. */
    String looks() {
        StringBuilder all = new StringBuilder();
        for (Node node : nodes) {
            int size = node.kind == 3 ? node.string.length() : node.items.size();
            all.append(node.place).append(" is ").append(node.kind).append(" of ").append(size).append(':');
            node.string.chars().forEach(c -> all.append(' ').append(c));
            for (int i = 0; i < node.items.size(); i++) {
                all.append(' ').append(node.items.get(i).place);
                all.append(node.kind == 5 ? " at " + node.keys.get(i).place : "");
            }
            all.append(node.kind == 1 || node.kind == 2 ? " " + node.number : "").append("; ");
        }
        return all.append("written ").toString();
    }

    String written() {
        Map<Node, Integer> timesHad = new IdentityHashMap<>();
        timesHad.merge(nodes.get(0), 1, Integer::sum);
        for (Node node : nodes) {
            node.items.forEach(item -> timesHad.merge(item, 1, Integer::sum));
        }
        return written(nodes.get(0), timesHad, new IdentityHashMap<>());
    }

    int count() {
        return nodes.size();
    }

    private static String written(Node node, Map<Node, Integer> timesHad, Map<Node, Character> letters) {
        if (letters.containsKey(node)) {
            return "*" + letters.get(node);
        }
        String front = "";
        if (timesHad.getOrDefault(node, 0) > 1) {
            letters.put(node, (char) ('a' + letters.size()));
            front = "&" + letters.get(node) + " ";
        }
        if (node.kind < 4) {
            return front + writtenAlone(node);
        }
        List<String> entries = new ArrayList<>();
        for (int i = 0; i < node.items.size(); i++) {
            String key = node.kind == 5 ? writtenAlone(node.keys.get(i)) + ": " : "";
            entries.add(key + written(node.items.get(i), timesHad, letters));
        }
        String all = String.join(", ", entries);
        return front + (node.kind == 4 ? "[" + all + "]" : "{" + all + "}");
    }

    private static String writtenAlone(Node node) {
        switch (node.kind) {
            case 0:
                return "null";
            case 1:
                return node.number == 1 ? "true" : "false";
            case 2:
                return Long.toString(node.number);
            default:
                return "\"" + node.string.replace("\\", "\\\\").replace("\"", "\\\"").replace("\n", "\\n") + "\"";
        }
    }

    private static void must(boolean condition) {
        if (!condition) {
            throw new Wrong();
        }
    }

    private Node begin(int kind, int depth) {
        must(depth <= 8 && nodes.size() < 60);
        Node node = new Node();
        node.kind = kind;
        node.place = nodes.size();
        nodes.add(node);
        if (naming != null) {
            named.put(naming, node);
            naming = null;
        }
        return node;
    }

    private void name(String letter) {
        must(naming == null);
        naming = letter;
    }

    private static String withoutEnd(String text) {
        return text.replaceAll(" +\\z", "");
    }

    private int depthOf(int line) {
        return line == lines.length ? -1 : lines[line].length() - lines[line].replaceAll("\\A +", "").length();
    }

    private int notVoidFrom(int line) {
        int k = line;
        while (k < lines.length && lines[k].matches(" *(?:#.*)?")) {
            k++;
        }
        return k;
    }

    private void outermost() {
        int first = notVoidFrom(0);
        if (first == lines.length) {
            begin(0, 1);
            return;
        }
        block(first, depthOf(first), 1);
        must(next == lines.length);
    }

    private String from(int line, int column) {
        return withoutEnd(lines[line]).substring(column);
    }

    private Node block(int line, int column, int depth) {
        String rest = from(line, column);
        if (DASH.matcher(rest).lookingAt()) {
            return linesOf(DASH, begin(4, depth), line, column, depth);
        }
        if (KEY.matcher(rest).lookingAt()) {
            return linesOf(KEY, begin(5, depth), line, column, depth);
        }
        return inline(line, column, depth);
    }

    private Node linesOf(Pattern mark, Node node, int firstLine, int column, int depth) {
        int line = firstLine;
        while (true) {
            Matcher front = mark.matcher(from(line, column));
            must(front.lookingAt());
            Node key = node.kind == 5 ? keyNode(front.group(1), depth + 1) : null;
            add(node, key, part(line, column + front.end(), column, depth + 1, node.kind == 4));
            if (depthOf(next) < column) {
                return node;
            }
            must(depthOf(next) == column);
            line = next;
        }
    }

    private Node part(int line, int from, int column, int depth, boolean isItem) {
        String rest = from(line, from);
        Matcher front = PART_NAMING.matcher(rest);
        int begin = from;
        if (front.lookingAt()) {
            name(front.group(1));
            begin += front.end();
            rest = from(line, begin);
        }
        if (rest.isEmpty()) {
            next = notVoidFrom(line + 1);
            return depthOf(next) > column ? block(next, depthOf(next), depth) : begin(0, depth);
        }
        if (rest.equals("|") || rest.equals("|-")) {
            return piece(line + 1, column, depth, rest.equals("|"));
        }
        return isItem ? block(line, begin, depth) : inline(line, begin, depth);
    }

    private Node piece(int first, int column, int depth, boolean withLineEnd) {
        List<String> taken = new ArrayList<>();
        int line = first;
        while (line < lines.length && (lines[line].isBlank() || depthOf(line) > column)) {
            taken.add(lines[line]);
            line++;
        }
        next = notVoidFrom(line);
        while (!taken.isEmpty() && taken.get(taken.size() - 1).isBlank()) {
            taken.remove(taken.size() - 1);
        }
        int from = -1;
        for (int i = 0; i < taken.size(); i++) {
            if (!taken.get(i).isBlank()) {
                from = from == -1 ? depthOf(first + i) : from;
                must(depthOf(first + i) >= from);
            }
        }
        int cut = from;
        taken.replaceAll(one -> one.length() > cut ? one.substring(cut) : "");
        Node node = begin(3, depth);
        node.string = String.join("\n", taken) + (withLineEnd && !taken.isEmpty() ? "\n" : "");
        return node;
    }

    private Node inline(int line, int from, int depth) {
        source = withoutEnd(lines[line]);
        at = from;
        Node node = value(depth, false);
        must(at == source.length());
        next = notVoidFrom(line + 1);
        return node;
    }

    /** Passes what the pattern finds right here; null when it finds nothing. */
    private Matcher pass(Pattern pattern) {
        Matcher found = pattern.matcher(source.substring(at));
        if (!found.lookingAt()) {
            return null;
        }
        at += found.end();
        return found;
    }

    private boolean isHere(char c) {
        return at < source.length() && source.charAt(at) == c;
    }

    private Node value(int depth, boolean inside) {
        Matcher found = pass(VALUE_NAMING);
        if (found != null) {
            name(found.group(1));
        }
        if (isHere('[') || isHere('{')) {
            return bracket(depth);
        }
        found = pass(REPEAT);
        if (found != null) {
            must(naming == null && named.containsKey(found.group(1)));
            return named.get(found.group(1));
        }
        int from = at;
        found = pass(QUOTED);
        if (found == null) {
            found = pass(inside ? PLAIN_INSIDE : PLAIN);
            must(found != null && !hasColon(from, at, inside));
        }
        return keyNode(found.group(), depth);
    }

    private boolean hasColon(int from, int to, boolean inside) {
        Matcher colon = (inside ? COLON_INSIDE : COLON).matcher(source);
        return colon.find(from) && colon.start() < to;
    }

    private Node bracket(int depth) {
        boolean isRow = isHere('[');
        char closing = isRow ? ']' : '}';
        Node node = begin(isRow ? 4 : 5, depth);
        at++;
        pass(BLANKS);
        if (isHere(closing)) {
            at++;
            return node;
        }
        while (true) {
            if (isRow) {
                add(node, null, value(depth + 1, true));
            } else {
                entry(node, depth + 1);
            }
            pass(BLANKS);
            boolean ends = isHere(closing);
            must(ends || isHere(','));
            at++;
            if (ends) {
                return node;
            }
            pass(BLANKS);
        }
    }

    private void entry(Node table, int depth) {
        Matcher found = pass(KEY_INSIDE);
        must(found != null);
        Node key = keyNode(found.group(1), depth);
        if (pass(NO_VALUE) != null) {
            add(table, key, begin(0, depth));
            return;
        }
        must(pass(BLANKS) != null);
        add(table, key, value(depth, true));
    }

    private void add(Node node, Node key, Node item) {
        if (key != null) {
            for (Node other : node.keys) {
                must(other.kind != key.kind || other.number != key.number || !other.string.equals(key.string));
            }
            node.keys.add(key);
        }
        node.items.add(item);
    }

    /** The node of a quoted or plain text, as keys are too. */
    private Node keyNode(String text, int depth) {
        if (text.startsWith("'")) {
            return stringNode(text.substring(1, text.length() - 1).replace("''", "'"), depth);
        }
        if (text.startsWith("\"")) {
            return stringNode(unescaped(text.substring(1, text.length() - 1)), depth);
        }
        String plain = withoutEnd(text);
        if (plain.matches("~|null")) {
            return begin(0, depth);
        }
        if (plain.matches("true|false")) {
            return numberNode(1, plain.equals("true") ? 1 : 0, depth);
        }
        if (plain.matches("[+-]?[0-9]{1,18}")) {
            return numberNode(2, Long.parseLong(plain), depth);
        }
        if (plain.matches("0x[0-9a-f]{1,14}")) {
            return numberNode(2, Long.parseLong(plain.substring(2), 16), depth);
        }
        return stringNode(plain, depth);
    }

    private static String unescaped(String text) {
        return Pattern.compile("\\\\(.)").matcher(text)
            .replaceAll(found -> Matcher.quoteReplacement(found.group(1).equals("n") ? "\n" : found.group(1)));
    }

    private Node stringNode(String string, int depth) {
        Node node = begin(3, depth);
        node.string = string;
        return node;
    }

    private Node numberNode(int kind, long number, int depth) {
        Node node = begin(kind, depth);
        node.number = number;
        return node;
    }
}
