import java.util.Arrays;

/**
 * Notes in lines whose depth tells what belongs to what: they are typed, loaded as numbered nodes,
 * looked at, and written out again in one line.
 */
public final class IndentedNotes {
    public static final int NONE = -1;

    private static final int TEXT_LIMIT = 200;
    private static final int TYPE_LIMIT = 8;
    private static final int NODE_LIMIT = 60;
    private static final int DEPTH_LIMIT = 8;
    private static final int LETTERS = 26;
    private static final int DECIMAL_DIGITS = 18;
    private static final int HEX_DIGITS = 14;
    private static final long HIGHEST_POWER_OF_TEN = 100_000_000_000_000_000L;

    // The characters of strings at most double; the rest is some ten characters for each node or repeat.
    private static final int WRITTEN_LIMIT = 2000;

    private static final int NOTHING = 0;
    private static final int TRUTH = 1;
    private static final int NUMBER = 2;
    private static final int STRING = 3;
    private static final int ROW = 4;
    private static final int TABLE = 5;

    private static final char LINE_END = '\n';
    private static final char BLANK = ' ';

    private final Text text;
    private final Writer writer;
    private Nodes loaded;
    // A text that turns out wrong must leave what is loaded alone, so reading goes into this one first.
    private Nodes spare;

    public IndentedNotes() {
        text = new Text();
        writer = new Writer();
        loaded = new Nodes();
        spare = new Nodes();
    }

    public int type(long characters, int n) {
        if (n < 1 || n > TYPE_LIMIT || text.length + n > TEXT_LIMIT) {
            return NONE;
        }
        for (int i = 0; i < n; i++) {
            if (!isAllowed(byteOf(characters, i))) {
                return NONE;
            }
        }
        for (int i = n - 1; i >= 0; i--) {
            text.append((char) byteOf(characters, i));
        }
        return text.length;
    }

    public int wipe() {
        int had = text.length;
        text.length = 0;
        return had;
    }

    public int load() throws IllegalArgumentException {
        spare.clear();
        text.split();
        Cursor cursor = new Cursor(text);
        ValueReader values = new ValueReader(cursor, spare);
        new BlockReader(text, spare, cursor, values).readOutermost();
        Nodes before = loaded;
        loaded = spare;
        spare = before;
        return loaded.count;
    }

    public int kind(int n) {
        return loaded.has(n) ? loaded.kinds[n] : NONE;
    }

    public int size(int n) {
        return loaded.has(n) ? loaded.sizes[n] : NONE;
    }

    public int item(int n, int i) throws IndexOutOfBoundsException {
        int entry = loaded.entryOf(n, i);
        if (entry == NONE) {
            throw new IndexOutOfBoundsException("there is no such item");
        }
        return loaded.values[entry];
    }

    public int key(int n, int i) throws IndexOutOfBoundsException {
        int entry = loaded.isOf(n, TABLE) ? loaded.entryOf(n, i) : NONE;
        if (entry == NONE) {
            throw new IndexOutOfBoundsException("there is no such key");
        }
        return loaded.keys[entry];
    }

    public long number(int n) throws IllegalArgumentException {
        if (!loaded.isOf(n, NUMBER) && !loaded.isOf(n, TRUTH)) {
            throw new IllegalArgumentException("the node is no number and no truth");
        }
        return loaded.numbers[n];
    }

    public int letter(int n, int i) {
        return loaded.isOf(n, STRING) ? loaded.charOf(n, i) : NONE;
    }

    public int find(int n, int character) {
        if (!loaded.isOf(n, TABLE)) {
            return NONE;
        }
        for (int e = 0; e < loaded.entries; e++) {
            if (loaded.owners[e] == n && loaded.isJust(loaded.keys[e], character)) {
                return loaded.values[e];
            }
        }
        return NONE;
    }

    public int write() throws IllegalStateException {
        if (loaded.count == 0) {
            throw new IllegalStateException("nothing is loaded");
        }
        if (loaded.countRepeated() > LETTERS) {
            throw new IllegalStateException("there are not enough letters");
        }
        writer.writeOut(loaded);
        return writer.count;
    }

    public int written(int i) {
        return i >= 0 && i < writer.count ? writer.out[i] : NONE;
    }

    private static int byteOf(long characters, int i) {
        return (int) (characters >>> (8 * i)) & 0xff;
    }

    private static boolean isAllowed(int character) {
        return character == LINE_END || character >= 32 && character <= 126;
    }

    /** What is typed, and where its lines and their rests begin and end. */
    private static final class Text {
        private final char[] chars = new char[TEXT_LIMIT];
        private final int[] lineBegins = new int[TEXT_LIMIT + 1];
        private final int[] lineEnds = new int[TEXT_LIMIT + 1];
        private final int[] restBegins = new int[TEXT_LIMIT + 1];
        private final int[] restEnds = new int[TEXT_LIMIT + 1];
        private int length;
        private int lines;

        private void append(char c) {
            if (length < TEXT_LIMIT) {
                chars[length] = c;
                length++;
            }
        }

        private void split() {
            lines = 0;
            int begin = 0;
            for (int p = 0; p <= length; p++) {
                if (p == length || chars[p] == LINE_END) {
                    addLine(begin, p);
                    begin = p + 1;
                }
            }
        }

        private void addLine(int begin, int end) {
            int restBegin = begin;
            while (restBegin < end && chars[restBegin] == BLANK) {
                restBegin++;
            }
            int restEnd = end;
            while (restEnd > restBegin && chars[restEnd - 1] == BLANK) {
                restEnd--;
            }
            lineBegins[lines] = begin;
            lineEnds[lines] = end;
            restBegins[lines] = restBegin;
            restEnds[lines] = restEnd;
            lines++;
        }

        private boolean hasRest(int line) {
            return restBegins[line] < restEnds[line];
        }

        private boolean isVoid(int line) {
            return !hasRest(line) || chars[restBegins[line]] == '#';
        }

        private int depthOf(int line) {
            return restBegins[line] - lineBegins[line];
        }
    }

    /** The nodes of one text; an entry is an item of a row (its key is NONE) or an entry of a table. */
    private static final class Nodes {
        private final int[] kinds = new int[NODE_LIMIT];
        private final int[] sizes = new int[NODE_LIMIT];
        private final long[] numbers = new long[NODE_LIMIT];
        private final int[] stringBegins = new int[NODE_LIMIT];
        private final int[] timesHad = new int[NODE_LIMIT];
        private int count;
        private final char[] chars = new char[TEXT_LIMIT];
        private int charCount;
        private final int[] owners = new int[TEXT_LIMIT];
        private final int[] keys = new int[TEXT_LIMIT];
        private final int[] values = new int[TEXT_LIMIT];
        private int entries;

        private void clear() {
            count = 0;
            charCount = 0;
            entries = 0;
        }

        private boolean has(int node) {
            return node >= 0 && node < count;
        }

        private boolean isOf(int node, int kind) {
            return has(node) && kinds[node] == kind;
        }

        private int add(int kind, long number) {
            if (count >= NODE_LIMIT) {
                throw new IllegalArgumentException("there are too many nodes");
            }
            kinds[count] = kind;
            sizes[count] = 0;
            numbers[count] = number;
            stringBegins[count] = charCount;
            // The outermost node is had once without any row or table.
            timesHad[count] = count == 0 ? 1 : 0;
            count++;
            return count - 1;
        }

        /** Appends to the string that began last: the characters of a string lie side by side. */
        private void appendTo(int string, char c) {
            if (charCount < TEXT_LIMIT) {
                chars[charCount] = c;
                charCount++;
                sizes[string]++;
            }
        }

        private void addEntry(int owner, int key, int value) {
            if (entries >= TEXT_LIMIT) {
                throw new IllegalArgumentException("there are too many items");
            }
            owners[entries] = owner;
            keys[entries] = key;
            values[entries] = value;
            entries++;
            sizes[owner]++;
            timesHad[value]++;
        }

        private int entryOf(int owner, int i) {
            int left = i;
            for (int e = 0; e < entries; e++) {
                if (owners[e] == owner) {
                    if (left == 0) {
                        return e;
                    }
                    left--;
                }
            }
            return NONE;
        }

        private boolean hasKeyLike(int table, int key) {
            for (int e = 0; e < entries; e++) {
                if (owners[e] == table && areAlike(keys[e], key)) {
                    return true;
                }
            }
            return false;
        }

        private boolean areAlike(int a, int b) {
            if (kinds[a] != kinds[b] || numbers[a] != numbers[b] || sizes[a] != sizes[b]) {
                return false;
            }
            for (int i = 0; i < sizes[a]; i++) {
                if (charOf(a, i) != charOf(b, i)) {
                    return false;
                }
            }
            return true;
        }

        private int charOf(int string, int i) {
            return i >= 0 && i < sizes[string] ? chars[stringBegins[string] + i] : NONE;
        }

        private boolean isJust(int node, int character) {
            return isOf(node, STRING) && sizes[node] == 1 && charOf(node, 0) == character;
        }

        private boolean isRepeated(int node) {
            return timesHad[node] > 1;
        }

        private int countRepeated() {
            int repeated = 0;
            for (int node = 0; node < count; node++) {
                if (isRepeated(node)) {
                    repeated++;
                }
            }
            return repeated;
        }
    }

    /** A place in a line of the text; behind the line's rest there seems to be a line end. */
    private static final class Cursor {
        private final Text text;
        private int line;
        private int at;
        private int end;

        private Cursor(Text text) {
            this.text = text;
        }

        /** Goes to the first line from this one on that is not void, or behind the last line. */
        private void goToLine(int from) {
            line = from;
            while (line < text.lines && text.isVoid(line)) {
                line++;
            }
            at = isBehindText() ? text.length : text.restBegins[line];
            end = isBehindText() ? text.length : text.restEnds[line];
        }

        private boolean isBehindText() {
            return line >= text.lines;
        }

        /** The line's depth; behind the last line less than any. */
        private int depth() {
            return isBehindText() ? NONE : text.depthOf(line);
        }

        private int column() {
            return isBehindText() ? 0 : at - text.lineBegins[line];
        }

        private char charAt(int p) {
            return p >= 0 && p < end ? text.chars[p] : LINE_END;
        }

        private char here() {
            return charAt(at);
        }

        private boolean isAtEnd() {
            return at >= end;
        }

        private void skipBlanks() {
            while (at < end && text.chars[at] == BLANK) {
                at++;
            }
        }

        private boolean isGapAt(int p) {
            return p < 0 || p >= end || text.chars[p] == BLANK;
        }

        private boolean isDashOfRow() {
            return here() == '-' && isGapAt(at + 1);
        }

        private boolean isJust(String word) {
            return says(at, end, word);
        }

        private boolean says(int from, int to, String word) {
            if (to - from != word.length()) {
                return false;
            }
            for (int i = 0; i < word.length(); i++) {
                if (charAt(from + i) != word.charAt(i)) {
                    return false;
                }
            }
            return true;
        }

        private int withoutBlanksAtEnd(int from, int to) {
            int p = to;
            while (p > from && charAt(p - 1) == BLANK) {
                p--;
            }
            return p;
        }
    }

    /** Reads values, which never go beyond their line, and keys. */
    private static final class ValueReader {
        private final Cursor cursor;
        private final Nodes nodes;
        private final int[] named = new int[LETTERS];
        // The letter of a naming whose node has not begun yet.
        private int naming = NONE;

        private ValueReader(Cursor cursor, Nodes nodes) {
            this.cursor = cursor;
            this.nodes = nodes;
            Arrays.fill(named, NONE);
        }

        /** Begins a node, with its number if it is one or a truth, and 0 otherwise. */
        private int begin(int kind, long number, int depth) {
            if (depth > DEPTH_LIMIT) {
                throw new IllegalArgumentException("a node lies too deep");
            }
            int node = nodes.add(kind, number);
            if (naming != NONE) {
                named[naming] = node;
                naming = NONE;
            }
            return node;
        }

        private void addToTable(int table, int key, int value) {
            if (nodes.hasKeyLike(table, key)) {
                throw new IllegalArgumentException("a table has a key twice");
            }
            nodes.addEntry(table, key, value);
        }

        private void readNaming() {
            if (cursor.here() != '&') {
                return;
            }
            int letter = letterAt(cursor.at + 1);
            if (letter == NONE || !cursor.isGapAt(cursor.at + 2)) {
                throw new IllegalArgumentException("a naming needs one letter");
            }
            if (naming != NONE) {
                throw new IllegalArgumentException("a node has two namings");
            }
            naming = letter;
            cursor.at += 2;
            cursor.skipBlanks();
        }

        private int letterAt(int p) {
            char c = cursor.charAt(p);
            return c >= 'a' && c <= 'z' ? c - 'a' : NONE;
        }

        private int readValue(int depth, boolean inside) {
            readNaming();
            switch (cursor.here()) {
                case '*':
                    return readRepeat();
                case '[':
                    return readBracketRow(depth);
                case '{':
                    return readBracketTable(depth);
                case '"':
                case '\'':
                    return readQuoted(depth);
                default:
                    return readPlain(depth, inside);
            }
        }

        private int readRepeat() {
            int letter = letterAt(cursor.at + 1);
            if (naming != NONE || letter == NONE || named[letter] == NONE) {
                throw new IllegalArgumentException("nothing can be had once more here");
            }
            cursor.at += 2;
            return named[letter];
        }

        private int readBracketRow(int depth) {
            int row = begin(ROW, 0, depth);
            boolean more = opens(']');
            for (int k = 0; more && k < TEXT_LIMIT; k++) {
                nodes.addEntry(row, NONE, readValue(depth + 1, true));
                more = goesOn(']');
            }
            return row;
        }

        private int readBracketTable(int depth) {
            int table = begin(TABLE, 0, depth);
            boolean more = opens('}');
            for (int k = 0; more && k < TEXT_LIMIT; k++) {
                int key = readKey(depth + 1, true);
                addToTable(table, key, readEntryValue(depth + 1));
                more = goesOn('}');
            }
            return table;
        }

        /** Passes the opening bracket, and the closing one if it follows; otherwise true. */
        private boolean opens(char closing) {
            cursor.at++;
            cursor.skipBlanks();
            return !passes(closing);
        }

        /** Passes a comma and answers true, or the closing bracket. */
        private boolean goesOn(char closing) {
            cursor.skipBlanks();
            if (passes(closing)) {
                return false;
            }
            if (!passes(',')) {
                throw new IllegalArgumentException("a bracket is not closed");
            }
            cursor.skipBlanks();
            return true;
        }

        private boolean passes(char c) {
            if (cursor.here() != c) {
                return false;
            }
            cursor.at++;
            return true;
        }

        private int readEntryValue(int depth) {
            boolean apart = cursor.here() == BLANK;
            cursor.skipBlanks();
            if (cursor.here() == ',' || cursor.here() == '}') {
                return begin(NOTHING, 0, depth);
            }
            if (!apart) {
                throw new IllegalArgumentException("a blank must stand behind the colon");
            }
            return readValue(depth, true);
        }

        private int readKey(int depth, boolean inside) {
            int from = cursor.at;
            int colon = colonOfKey(inside);
            if (colon == NONE) {
                throw new IllegalArgumentException("a key is missing");
            }
            cursor.at = colon + 1;
            return isQuote(cursor.charAt(from)) ? quotedNode(from, colon, depth) : plainNode(from, colon, depth);
        }

        /** Where the colon of the key is that begins here; NONE when no key does. */
        private int colonOfKey(boolean inside) {
            int from = cursor.at;
            if (isQuote(cursor.charAt(from))) {
                int behind = behindQuoted(from);
                return behind != NONE && isColonOfKey(behind, inside) ? behind : NONE;
            }
            if (!beginsPlain(from)) {
                return NONE;
            }
            for (int p = from; p < cursor.end; p++) {
                if (isColonOfKey(p, inside)) {
                    return p;
                }
                if (inside && isBracketOrComma(cursor.charAt(p))) {
                    return NONE;
                }
            }
            return NONE;
        }

        private boolean isColonOfKey(int p, boolean inside) {
            return cursor.charAt(p) == ':'
                && (cursor.isGapAt(p + 1) || inside && isBracketOrComma(cursor.charAt(p + 1)));
        }

        private int readQuoted(int depth) {
            int from = cursor.at;
            int behind = behindQuoted(from);
            if (behind == NONE) {
                throw new IllegalArgumentException("a quoted text is wrong");
            }
            cursor.at = behind;
            return quotedNode(from, behind, depth);
        }

        /** Where the quoted text that begins there has ended; NONE when it is wrong. */
        private int behindQuoted(int from) {
            char quote = cursor.charAt(from);
            for (int p = from + 1; p < cursor.end; p++) {
                char c = cursor.charAt(p);
                char next = cursor.charAt(p + 1);
                if (isPair(quote, c, next)) {
                    p++;
                } else if (c == quote) {
                    return p + 1;
                } else if (quote == '"' && c == '\\') {
                    return NONE;
                }
            }
            return NONE;
        }

        /** Whether two characters stand for one in a text with these quotes. */
        private static boolean isPair(char quote, char c, char next) {
            if (quote == '\'') {
                return c == '\'' && next == '\'';
            }
            return c == '\\' && (next == '\\' || next == '"' || next == 'n');
        }

        private int quotedNode(int from, int behind, int depth) {
            int node = begin(STRING, 0, depth);
            char quote = cursor.charAt(from);
            for (int p = from + 1; p < behind - 1; p++) {
                char c = cursor.charAt(p);
                if (isPair(quote, c, cursor.charAt(p + 1))) {
                    p++;
                    c = cursor.charAt(p) == 'n' ? LINE_END : cursor.charAt(p);
                }
                nodes.appendTo(node, c);
            }
            return node;
        }

        private int readPlain(int depth, boolean inside) {
            int from = cursor.at;
            if (!beginsPlain(from)) {
                throw new IllegalArgumentException("a value is missing");
            }
            int to = from;
            while (to < cursor.end && !(inside && isBracketOrComma(cursor.charAt(to)))) {
                if (isColonOfKey(to, inside)) {
                    throw new IllegalArgumentException("a plain text has the colon of a key");
                }
                to++;
            }
            cursor.at = to;
            return plainNode(from, to, depth);
        }

        private boolean beginsPlain(int p) {
            char c = cursor.charAt(p);
            if (c == '-') {
                return !cursor.isGapAt(p + 1);
            }
            return c >= 'a' && c <= 'z' || c >= 'A' && c <= 'Z' || c >= '0' && c <= '9'
                || "_.+/~(<=$^".indexOf(c) >= 0;
        }

        private int plainNode(int from, int end, int depth) {
            int to = cursor.withoutBlanksAtEnd(from, end);
            if (cursor.says(from, to, "~") || cursor.says(from, to, "null")) {
                return begin(NOTHING, 0, depth);
            }
            if (cursor.says(from, to, "true") || cursor.says(from, to, "false")) {
                return begin(TRUTH, cursor.charAt(from) == 't' ? 1 : 0, depth);
            }
            boolean signed = cursor.charAt(from) == '+' || cursor.charAt(from) == '-';
            int digits = signed ? from + 1 : from;
            if (areDigits(digits, to, 10, DECIMAL_DIGITS)) {
                long number = valueOfDigits(digits, to, 10);
                return begin(NUMBER, cursor.charAt(from) == '-' ? -number : number, depth);
            }
            if (cursor.says(from, from + 2, "0x") && areDigits(from + 2, to, 16, HEX_DIGITS)) {
                return begin(NUMBER, valueOfDigits(from + 2, to, 16), depth);
            }
            int node = begin(STRING, 0, depth);
            for (int p = from; p < to; p++) {
                nodes.appendTo(node, cursor.charAt(p));
            }
            return node;
        }

        private boolean areDigits(int from, int to, int base, int most) {
            if (to - from < 1 || to - from > most) {
                return false;
            }
            for (int p = from; p < to; p++) {
                int digit = digitOf(cursor.charAt(p));
                if (digit == NONE || digit >= base) {
                    return false;
                }
            }
            return true;
        }

        private long valueOfDigits(int from, int to, int base) {
            long value = 0;
            for (int p = from; p < to; p++) {
                value = value * base + digitOf(cursor.charAt(p));
            }
            return value;
        }

        private static int digitOf(char c) {
            if (c >= '0' && c <= '9') {
                return c - '0';
            }
            return c >= 'a' && c <= 'f' ? c - 'a' + 10 : NONE;
        }

        private static boolean isQuote(char c) {
            return c == '"' || c == '\'';
        }

        private static boolean isBracketOrComma(char c) {
            return c == ',' || c == '[' || c == ']' || c == '{' || c == '}';
        }
    }

    /** Reads what is in lines; what it has read, it leaves for the next line that is not void. */
    private static final class BlockReader {
        private final Text text;
        private final Nodes nodes;
        private final Cursor cursor;
        private final ValueReader values;

        private BlockReader(Text text, Nodes nodes, Cursor cursor, ValueReader values) {
            this.text = text;
            this.nodes = nodes;
            this.cursor = cursor;
            this.values = values;
        }

        private void readOutermost() {
            cursor.goToLine(0);
            if (cursor.isBehindText()) {
                values.begin(NOTHING, 0, 1);
                return;
            }
            readBlock(1, true);
            if (!cursor.isBehindText()) {
                throw new IllegalArgumentException("a line is left");
            }
        }

        private int readBlock(int depth, boolean mayHaveLines) {
            if (mayHaveLines && cursor.isDashOfRow()) {
                return readRow(depth);
            }
            if (mayHaveLines && values.colonOfKey(false) != NONE) {
                return readTable(depth);
            }
            int node = values.readValue(depth, false);
            if (!cursor.isAtEnd()) {
                throw new IllegalArgumentException("something is left in the line");
            }
            cursor.goToLine(cursor.line + 1);
            return node;
        }

        private int readRow(int depth) {
            int column = cursor.column();
            int row = values.begin(ROW, 0, depth);
            boolean more = true;
            for (int k = 0; more && k < TEXT_LIMIT; k++) {
                cursor.at++;
                cursor.skipBlanks();
                nodes.addEntry(row, NONE, readPart(column, depth + 1, true));
                more = goesOn(column);
                if (more && !cursor.isDashOfRow()) {
                    throw new IllegalArgumentException("a row needs a dash");
                }
            }
            return row;
        }

        private int readTable(int depth) {
            int column = cursor.column();
            int table = values.begin(TABLE, 0, depth);
            boolean more = true;
            for (int k = 0; more && k < TEXT_LIMIT; k++) {
                // A line that begins with the dash of a row has no key, so it is refused here too.
                int key = values.readKey(depth + 1, false);
                cursor.skipBlanks();
                values.addToTable(table, key, readPart(column, depth + 1, false));
                more = goesOn(column);
            }
            return table;
        }

        /** Whether the row or table at this column goes on in the line where the cursor is now. */
        private boolean goesOn(int column) {
            if (cursor.depth() > column) {
                throw new IllegalArgumentException("a line is too deep");
            }
            return cursor.depth() == column;
        }

        private int readPart(int column, int depth, boolean isItem) {
            values.readNaming();
            if (cursor.isAtEnd()) {
                cursor.goToLine(cursor.line + 1);
                return cursor.depth() > column ? readBlock(depth, true) : values.begin(NOTHING, 0, depth);
            }
            if (cursor.isJust("|") || cursor.isJust("|-")) {
                return readPiece(column, depth, cursor.isJust("|"));
            }
            return readBlock(depth, isItem);
        }

        private int readPiece(int column, int depth, boolean withLastLineEnd) {
            int first = cursor.line + 1;
            int stop = first;
            while (stop < text.lines && !(text.hasRest(stop) && text.depthOf(stop) <= column)) {
                stop++;
            }
            int behind = stop;
            while (behind > first && !text.hasRest(behind - 1)) {
                behind--;
            }
            int piece = values.begin(STRING, 0, depth);
            appendLines(piece, first, behind);
            if (withLastLineEnd && behind > first) {
                nodes.appendTo(piece, LINE_END);
            }
            cursor.goToLine(stop);
            return piece;
        }

        private void appendLines(int piece, int first, int behind) {
            int column = columnOfLines(first, behind);
            for (int line = first; line < behind; line++) {
                if (text.hasRest(line) && text.depthOf(line) < column) {
                    throw new IllegalArgumentException("a line of a piece is not deep enough");
                }
                if (line > first) {
                    nodes.appendTo(piece, LINE_END);
                }
                for (int p = text.lineBegins[line] + column; p < text.lineEnds[line]; p++) {
                    nodes.appendTo(piece, text.chars[p]);
                }
            }
        }

        private int columnOfLines(int first, int behind) {
            for (int line = first; line < behind; line++) {
                if (text.hasRest(line)) {
                    return text.depthOf(line);
                }
            }
            return 0;
        }
    }

    /** Writes nodes out, and keeps what was written out latest. */
    private static final class Writer {
        private final char[] out = new char[WRITTEN_LIMIT];
        private int count;
        private final int[] letterOf = new int[NODE_LIMIT];
        private int letters;

        private void writeOut(Nodes nodes) {
            count = 0;
            letters = 0;
            Arrays.fill(letterOf, NONE);
            putNode(nodes, 0, 1);
        }

        private void putNode(Nodes nodes, int node, int depth) {
            if (letterOf[node] != NONE) {
                putLetter('*', node);
                return;
            }
            // A node that is new here lies where it was read, never deeper than that may be.
            if (depth > DEPTH_LIMIT) {
                return;
            }
            if (nodes.isRepeated(node)) {
                letterOf[node] = letters;
                letters++;
                putLetter('&', node);
                put(BLANK);
            }
            putNew(nodes, node, depth);
        }

        private void putNew(Nodes nodes, int node, int depth) {
            switch (nodes.kinds[node]) {
                case TRUTH:
                    putWord(nodes.numbers[node] == 1 ? "true" : "false");
                    break;
                case NUMBER:
                    putNumber(nodes.numbers[node]);
                    break;
                case STRING:
                    putString(nodes, node);
                    break;
                case ROW:
                    put('[');
                    putEntries(nodes, node, depth);
                    put(']');
                    break;
                case TABLE:
                    put('{');
                    putEntries(nodes, node, depth);
                    put('}');
                    break;
                default:
                    putWord("null");
                    break;
            }
        }

        private void putEntries(Nodes nodes, int owner, int depth) {
            boolean isFirst = true;
            for (int e = 0; e < nodes.entries; e++) {
                if (nodes.owners[e] == owner) {
                    if (!isFirst) {
                        putWord(", ");
                    }
                    isFirst = false;
                    if (nodes.keys[e] != NONE) {
                        putNode(nodes, nodes.keys[e], depth + 1);
                        putWord(": ");
                    }
                    putNode(nodes, nodes.values[e], depth + 1);
                }
            }
        }

        private void putLetter(char mark, int node) {
            put(mark);
            put((char) ('a' + letterOf[node]));
        }

        private void putString(Nodes nodes, int node) {
            put('"');
            for (int i = 0; i < nodes.sizes[node]; i++) {
                char c = (char) nodes.charOf(node, i);
                if (c == '\\' || c == '"' || c == LINE_END) {
                    put('\\');
                }
                put(c == LINE_END ? 'n' : c);
            }
            put('"');
        }

        private void putNumber(long number) {
            if (number < 0) {
                put('-');
            }
            long left = Math.abs(number);
            boolean begun = false;
            for (long power = HIGHEST_POWER_OF_TEN; power > 0; power /= 10) {
                long digit = left / power % 10;
                begun = begun || digit > 0 || power == 1;
                if (begun) {
                    put((char) ('0' + digit));
                }
            }
        }

        private void putWord(String word) {
            for (int i = 0; i < word.length(); i++) {
                put(word.charAt(i));
            }
        }

        private void put(char c) {
            if (count < WRITTEN_LIMIT) {
                out[count] = c;
                count++;
            }
        }
    }
}
