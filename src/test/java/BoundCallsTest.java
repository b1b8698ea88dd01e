/** The boundary cases of promises 4 to 13, and of what throws: a test for each sentence. */
public final class BoundCallsTest {
    // 0 row, 1 nothing, 2 truth, 3 number, 4 string "ab", 5 row, 6 its 7, 7 table, 8 its key "k", 9 its value [],
    // 10 its key 5, 11 its value "", 12 table
    private static final String ALL_KINDS = "[~, true, -3, ab, [7], {k: [], 5: ''}, {}]";
    private static final int[] KINDS = {4, 0, 1, 2, 3, 4, 2, 5, 3, 4, 2, 3, 5};
    private static final int[] SIZES = {7, 0, 0, 0, 2, 1, 0, 2, 1, 0, 0, 0, 0};
    private static final int NODES = 13;
    private static final int[] FAR = {-2, 59, 60, 61, 200, 256, Integer.MIN_VALUE, Integer.MAX_VALUE};

    public static void main(String[] args) {
        loading();
        looking();
        writing();
        throwing();
        lastCall();
        Due.end();
    }

    private static void loading() {
        loadTellsHowMany();
        loadTakesThePlace();
        loadLeavesNoTrace();
        loadLeavesNoEntry();
        loadHoldsAfterManyLoads();
        loadLeavesTheText();
        loadThrowsWhenWrong();
    }

    private static void looking() {
        kinds();
        sizes();
        items();
        itemsThatAreNone();
        keys();
        keysThatAreNone();
        numbers();
        numbersThatAreNone();
        letters();
        lettersThatAreNone();
        finds();
        findsNeedOneCharacter();
        findsNeedAString();
        findsThatAreNone();
    }

    private static void writing() {
        scalarsWrittenOut();
        numbersWrittenOut();
        stringsWrittenOut();
        rowsWrittenOut();
        tablesWrittenOut();
        namedOnlyWhenHadTwice();
        outermostIsHadOnce();
        lettersInOrder();
        writeTellsHowMany();
        writeNeedsLoaded();
        writtenCharacters();
        writtenThatAreNone();
        writtenLatest();
    }

    private static void throwing() {
        wrongTextLeavesAll();
        wrongTextLeavesNothingLoaded();
        lookingLeavesAll();
        writeLeavesAll();
    }

    // Promise 4: "how many nodes there are"
    private static void loadTellsHowMany() {
        Due.same("the empty text", new IndentedNotes().load(), 1);
        Due.same("one string", Due.typed("a").load(), 1);
        Due.same("an empty row", Due.typed("[]").load(), 1);
        Due.same("a table with an entry", Due.typed("a:").load(), 3);
        Due.same("a node had again", Due.typed("[&a 1, *a]").load(), 2);
        Due.same("60", Due.typed("[" + "1,".repeat(58) + "1]").load(), 60);
    }

    // Promise 4: "Loads the text in place of what was loaded"
    private static void loadTakesThePlace() {
        IndentedNotes x = Due.loaded("{a: [1, 2], b: xy}");
        x.wipe();
        Due.same("load() of the empty text", x.load(), 1);
        Due.same("kind(0)", x.kind(0), 0);
        Due.same("size(0)", x.size(0), 0);
        Due.same("kind(1)", x.kind(1), -1);
        Due.thrown("item(0, 0)", IndexOutOfBoundsException.class, () -> x.item(0, 0));
        Due.type(x, "- c");
        Due.same("load() of less than before", x.load(), 2);
        Due.same("what it has", Due.looks(x), "0 is 4 of 1: 1; 1 is 3 of 1: 99; written ");
        x.wipe();
        Due.type(x, "{a: [1, 2], b: xy}");
        Due.same("load() of more than before", x.load(), 7);
        Due.same("what it has", Due.writtenOut(x), "{\"a\": [1, 2], \"b\": \"xy\"}");
    }

    // ".. in place of what was loaded": of longer texts that came before, nothing can be seen
    private static void loadLeavesNoTrace() {
        IndentedNotes x = Due.loaded("a:\n    b: [2, 3]\n    c:\n     - |\n       xyz\n     - x\nd: &a y\ne: *a");
        x.load();
        for (int i = 0; i < 3; i++) {
            Due.same("a shorter table", loadAnew(x, "a: |"), 3);
            Due.same("what it has", Due.looks(x), "0 is 5 of 1: 2 at 1; 1 is 3 of 1: 97; 2 is 3 of 0:; written ");
            Due.same("find a", x.find(0, 'a'), 2);
            Due.same("find b", x.find(0, 'b'), -1);
            Due.thrown("item(0, 1)", IndexOutOfBoundsException.class, () -> x.item(0, 1));
            Due.thrown("key(0, 1)", IndexOutOfBoundsException.class, () -> x.key(0, 1));
            Due.same("letter(2, 0)", x.letter(2, 0), -1);
            Due.same("kind(3)", x.kind(3), -1);
        }
        Due.same("a node that is had once", loadAnew(x, "[y]"), 2);
        Due.same("written out", Due.writtenOut(x), "[\"y\"]");
    }

    // ".. in place of what was loaded": an entry of a longer table that came before is found no more
    private static void loadLeavesNoEntry() {
        IndentedNotes x = Due.loaded("{a: &x 1, b: *x, c: *x}");
        x.load();
        Due.same("find c", x.find(0, 'c'), 2);
        for (int i = 0; i < 3; i++) {
            Due.same("a table with c as a value", loadAnew(x, "{a: 1, b: c}"), 5);
            Due.same("find c, which is a value now", x.find(0, 'c'), -1);
            Due.same("find b", x.find(0, 'b'), 4);
        }
    }

    private static int loadAnew(IndentedNotes x, String text) {
        x.wipe();
        Due.type(x, text);
        return x.load();
    }

    // ".. in place of what was loaded": the room of each load is the whole room, after right and wrong texts
    private static void loadHoldsAfterManyLoads() {
        IndentedNotes x = Due.typed("x".repeat(199));
        for (int i = 0; i < 20; i++) {
            Due.same("load() of 199", x.load(), 1);
            Due.same("size of 199", x.size(0), 199);
            Due.same("the last of 199", x.letter(0, 198), 'x');
        }
        x.wipe();
        Due.type(x, "[" + "1,".repeat(58) + "1");
        for (int i = 0; i < 20; i++) {
            Due.thrown("load() of 60 nodes without an end", IllegalArgumentException.class, x::load);
        }
        x.type(']', 1);
        for (int i = 0; i < 20; i++) {
            Due.same("load() of 60 nodes", x.load(), 60);
            Due.same("the last of 60 nodes", x.item(0, 58), 59);
        }
    }

    // The text is neither emptied nor changed by load().
    private static void loadLeavesTheText() {
        IndentedNotes x = Due.typed("[1");
        Due.thrown("load()", IllegalArgumentException.class, x::load);
        Due.same("type()", x.type(']', 1), 3);
        Due.same("load()", x.load(), 2);
        Due.same("load() again", x.load(), 2);
        Due.same("wipe()", x.wipe(), 3);
    }

    // Promise 4: "IllegalArgumentException when it is wrong."
    private static void loadThrowsWhenWrong() {
        String[] wrong = {"[", "]", "?", "*a", "a\nb", "- a\nb", "a: 1\na: 2", "- |\n  a\n b", "\"\\", "-\n".repeat(60),
            "[".repeat(200), "\n".repeat(199) + "]", " ".repeat(199) + "'"};
        for (String text : wrong) {
            Due.refuses(text);
        }
    }

    // Promise 5: "What node n is: 0 .. 5; NONE when there is none."
    private static void kinds() {
        IndentedNotes x = Due.loaded(ALL_KINDS);
        for (int n = 0; n < NODES; n++) {
            Due.same("kind(" + n + ")", x.kind(n), KINDS[n]);
        }
        Due.same("kind(-1)", x.kind(-1), -1);
        Due.same("kind behind the last", x.kind(NODES), -1);
        for (int n : FAR) {
            Due.same("kind(" + n + ")", x.kind(n), -1);
        }
    }

    // Promise 6: "How many items, entries or characters node n has; 0 for the others; NONE when there is none."
    private static void sizes() {
        IndentedNotes x = Due.loaded(ALL_KINDS);
        for (int n = 0; n < NODES; n++) {
            Due.same("size(" + n + ")", x.size(n), SIZES[n]);
        }
        Due.same("size(-1)", x.size(-1), -1);
        Due.same("size behind the last", x.size(NODES), -1);
        for (int n : FAR) {
            Due.same("size(" + n + ")", x.size(n), -1);
        }
        Due.same("size with items had again", Due.loaded("&a [*a, *a, *a]").size(0), 3);
    }

    // Promise 7: "Item i of a row, or the value of entry i of a table."
    private static void items() {
        IndentedNotes x = Due.loaded(ALL_KINDS);
        int[] ofRow = {1, 2, 3, 4, 5, 7, 12};
        for (int i = 0; i < ofRow.length; i++) {
            Due.same("item(0, " + i + ")", x.item(0, i), ofRow[i]);
        }
        Due.same("item(5, 0)", x.item(5, 0), 6);
        Due.same("item(7, 0)", x.item(7, 0), 9);
        Due.same("item(7, 1)", x.item(7, 1), 11);
        IndentedNotes y = Due.loaded("&a [b, *a, {c: *a}]");
        Due.same("an item that is the row itself", y.item(0, 1), 0);
        Due.same("a value that is the row around it", y.item(2, 0), 0);
    }

    // Promise 7: "IndexOutOfBoundsException when there is none."
    private static void itemsThatAreNone() {
        IndentedNotes x = Due.loaded(ALL_KINDS);
        for (int n = -1; n <= NODES; n++) {
            boolean hasItems = n == 0 || n == 5 || n == 7;
            noItem(x, n, -1);
            noItem(x, n, hasItems ? SIZES[n] : 0);
            noItem(x, n, hasItems ? SIZES[n] + 1 : 1);
            noItem(x, n, Integer.MIN_VALUE);
            noItem(x, n, Integer.MAX_VALUE);
        }
        for (int n : FAR) {
            noItem(x, n, 0);
        }
    }

    private static void noItem(IndentedNotes x, int n, int i) {
        Due.thrown("item(" + n + ", " + i + ")", IndexOutOfBoundsException.class, () -> x.item(n, i));
    }

    // Promise 8: "The key of entry i of a table."
    private static void keys() {
        IndentedNotes x = Due.loaded(ALL_KINDS);
        Due.same("key(7, 0)", x.key(7, 0), 8);
        Due.same("key(7, 1)", x.key(7, 1), 10);
        IndentedNotes y = Due.loaded("a:\n  b: 1\n  ~:\nc:");
        Due.same("key(0, 0)", y.key(0, 0), 1);
        Due.same("key(0, 1)", y.key(0, 1), 7);
        Due.same("key(2, 0)", y.key(2, 0), 3);
        Due.same("key(2, 1)", y.key(2, 1), 5);
    }

    // Promise 8: "IndexOutOfBoundsException when there is none."
    private static void keysThatAreNone() {
        IndentedNotes x = Due.loaded(ALL_KINDS);
        for (int n = -1; n <= NODES; n++) {
            noKey(x, n, -1);
            noKey(x, n, n == 7 ? 2 : 0);
            noKey(x, n, n == 7 ? 3 : 1);
            noKey(x, n, Integer.MIN_VALUE);
            noKey(x, n, Integer.MAX_VALUE);
        }
        for (int n : FAR) {
            noKey(x, n, 0);
        }
    }

    private static void noKey(IndentedNotes x, int n, int i) {
        Due.thrown("key(" + n + ", " + i + ")", IndexOutOfBoundsException.class, () -> x.key(n, i));
    }

    // Promise 9: "The number that node n is; for a truth 1 or 0."
    private static void numbers() {
        IndentedNotes x = Due.loaded("[true, false, 0, -1, 999999999999999999, -999999999999999999, 0xffffffffffffff]");
        long[] due = {1, 0, 0, -1, 999999999999999999L, -999999999999999999L, 72057594037927935L};
        for (int i = 0; i < due.length; i++) {
            Due.same("number(" + (i + 1) + ")", x.number(i + 1), due[i]);
        }
        Due.same("number of a key", Due.loaded("0x10: a").number(1), 16);
    }

    // Promise 9: "IllegalArgumentException when it is neither, or there is none."
    private static void numbersThatAreNone() {
        IndentedNotes x = Due.loaded(ALL_KINDS);
        for (int n = -1; n <= NODES; n++) {
            int node = n;
            if (n < 0 || n == NODES || KINDS[n] != 1 && KINDS[n] != 2) {
                Due.thrown("number(" + n + ")", IllegalArgumentException.class, () -> x.number(node));
            }
        }
        for (int n : FAR) {
            Due.thrown("number(" + n + ")", IllegalArgumentException.class, () -> x.number(n));
        }
        IndentedNotes y = Due.loaded("'1'");
        Due.thrown("number of a quoted 1", IllegalArgumentException.class, () -> y.number(0));
    }

    // Promise 10: "Character i of the string that node n is"
    private static void letters() {
        IndentedNotes x = Due.loaded("{ab: ' ~', \"\\n\": \"\\\\\"}");
        Due.same("letter(1, 0)", x.letter(1, 0), 'a');
        Due.same("letter(1, 1)", x.letter(1, 1), 'b');
        Due.same("letter(2, 0)", x.letter(2, 0), 32);
        Due.same("letter(2, 1)", x.letter(2, 1), 126);
        Due.same("letter(3, 0)", x.letter(3, 0), 10);
        Due.same("letter(4, 0)", x.letter(4, 0), '\\');
        IndentedNotes y = Due.loaded("y".repeat(199) + "z");
        Due.same("letter(0, 199)", y.letter(0, 199), 'z');
        Due.same("letter(0, 200)", y.letter(0, 200), -1);
    }

    // Promise 10: "NONE when there is none."
    private static void lettersThatAreNone() {
        IndentedNotes x = Due.loaded(ALL_KINDS);
        for (int n = -1; n <= NODES; n++) {
            boolean isString = n == 4 || n == 8;
            Due.same("letter(" + n + ", -1)", x.letter(n, -1), -1);
            Due.same("letter(" + n + ", behind)", x.letter(n, isString ? SIZES[n] : 0), -1);
            Due.same("letter(" + n + ", least)", x.letter(n, Integer.MIN_VALUE), -1);
            Due.same("letter(" + n + ", greatest)", x.letter(n, Integer.MAX_VALUE), -1);
        }
        for (int n : FAR) {
            Due.same("letter(" + n + ", 0)", x.letter(n, 0), -1);
        }
    }

    // Promise 11: "The value of the entry of table n .."
    private static void finds() {
        IndentedNotes x = Due.loaded("a: 1\nb: &v {a: 2, c: *v}\n' ': 3\n\"\\n\": 4\n'~': 5");
        Due.same("the first", x.find(0, 'a'), 2);
        Due.same("another", x.find(0, 'b'), 4);
        Due.same("in another table", x.find(4, 'a'), 6);
        Due.same("the table itself", x.find(4, 'c'), 4);
        Due.same("a blank", x.find(0, ' '), 9);
        Due.same("a line end", x.find(0, '\n'), 11);
        Due.same("the last", x.find(0, '~'), 13);
    }

    // ".. of just this one character"
    private static void findsNeedOneCharacter() {
        IndentedNotes x = Due.loaded("ab: 1\n'': 2\nc: 3\ncc: 4");
        Due.same("the first of two", x.find(0, 'a'), -1);
        Due.same("the second of two", x.find(0, 'b'), -1);
        Due.same("just one", x.find(0, 'c'), 6);
        Due.same("none at all", x.find(0, -1), -1);
        Due.same("0", x.find(0, 0), -1);
        Due.same("one more than a byte holds", x.find(0, 'c' + 256), -1);
        Due.same("one more than a char holds", x.find(0, 'c' + 65536), -1);
        Due.same("a negative one", x.find(0, 'c' - 256), -1);
        Due.same("the least", x.find(0, Integer.MIN_VALUE), -1);
        Due.same("the greatest", x.find(0, Integer.MAX_VALUE), -1);
    }

    // ".. whose key is a string"
    private static void findsNeedAString() {
        IndentedNotes x = Due.loaded("1: a\n~: b\ntrue: c\n65: d");
        Due.same("a digit", x.find(0, '1'), -1);
        Due.same("a number", x.find(0, 1), -1);
        Due.same("the character of a number", x.find(0, 65), -1);
        Due.same("~", x.find(0, '~'), -1);
        Due.same("a quoted digit", Due.loaded("1: a\n'1': b").find(0, '1'), 4);
    }

    // Promise 11: "NONE when there is none, or n is no table."
    private static void findsThatAreNone() {
        IndentedNotes x = Due.loaded(ALL_KINDS);
        for (int n = -1; n <= NODES; n++) {
            Due.same("find(" + n + ", k)", x.find(n, 'k'), n == 7 ? 9 : -1);
            Due.same("find(" + n + ", a)", x.find(n, 'a'), -1);
        }
        for (int n : FAR) {
            Due.same("find(" + n + ", k)", x.find(n, 'k'), -1);
        }
        Due.same("a value", Due.loaded("a: b").find(0, 'b'), -1);
    }

    // "WRITTEN OUT, a node is: null; true or false"
    private static void scalarsWrittenOut() {
        Due.loads("", "null");
        Due.loads("~", "null");
        Due.loads("true", "true");
        Due.loads("false", "false");
    }

    // ".. a number in digits, with - if it is below 0"
    private static void numbersWrittenOut() {
        Due.loads("0", "0");
        Due.loads("-0", "0");
        Due.loads("+1", "1");
        Due.loads("-1", "-1");
        Due.loads("0010", "10");
        Due.loads("0x64", "100");
        Due.loads("999999999999999999", "999999999999999999");
        Due.loads("-999999999999999999", "-999999999999999999");
        Due.loads("100000000000000000", "100000000000000000");
        Due.loads("-100000000000000001", "-100000000000000001");
        Due.loads("0xffffffffffffff", "72057594037927935");
    }

    // ".. a string between ", with \ before each \ and ", and \n for a line end"
    private static void stringsWrittenOut() {
        Due.loads("''", "\"\"");
        Due.loads("'a''b'", "\"a'b\"");
        Due.loads("'\\'", "\"\\\\\"");
        Due.loads("'\"\"'", "\"\\\"\\\"\"");
        Due.loads("\"\\n\"", "\"\\n\"");
        Due.loads("'\\n'", "\"\\\\n\"");
        Due.loads("' [,]{} '", "\" [,]{} \"");
        Due.loads("'" + "\\".repeat(198) + "'", "\"" + "\\".repeat(396) + "\"");
    }

    // ".. a row as [, its items with a comma and a blank between, ]"
    private static void rowsWrittenOut() {
        Due.loads("[]", "[]");
        Due.loads("[1]", "[1]");
        Due.loads("[1,2,[3,[]]]", "[1, 2, [3, []]]");
        Due.loads("-\n- a", "[null, \"a\"]");
    }

    // ".. a table as {, its entries with a comma and a blank between, each its key, a colon, a blank, its value, }"
    private static void tablesWrittenOut() {
        Due.loads("{}", "{}");
        Due.loads("{a:}", "{\"a\": null}");
        Due.loads("a: 1\n2: b\n~: {}\ntrue: []", "{\"a\": 1, 2: \"b\", null: {}, true: []}");
    }

    // "If a node is had more than once (from rows, from tables ..), & and a letter and a blank stand before it"
    private static void namedOnlyWhenHadTwice() {
        Due.loads("[&a 1]", "[1]");
        Due.loads("[&a 1, 1]", "[1, 1]");
        Due.loads("[&a 1, *a]", "[&a 1, *a]");
        Due.loads("[&a 1, *a, *a, *a]", "[&a 1, *a, *a, *a]");
        Due.loads("{k: &a {}, l: [*a]}", "{\"k\": &a {}, \"l\": [*a]}");
        Due.loads("[&a ~, *a, &b '', *b, &c false, *c, &d [], *d]",
            "[&a null, *a, &b \"\", *b, &c false, *c, &d [], *d]");
    }

    // ".. and as the outermost one"
    private static void outermostIsHadOnce() {
        Due.loads("&a [1]", "[1]");
        Due.loads("&a [*a]", "&a [*a]");
        Due.loads("&a {k: [*a]}", "&a {\"k\": [*a]}");
        Due.loads("&a x", "\"x\"");
    }

    // "The letters are a, b, .. in the order in which they are written."
    private static void lettersInOrder() {
        Due.loads("[&z 1, &y 2, *y, *z]", "[&a 1, &b 2, *b, *a]");
        Due.loads("[&z 1, &y 2, *y]", "[1, &a 2, *a]");
        Due.loads("&c [&b {k: &a 1, l: *b}, *a, *c]", "&a [&b {\"k\": &c 1, \"l\": *b}, *c, *a]");
        Due.loads("- &a 1\n- *a\n- &a 2\n- *a", "[&a 1, *a, &b 2, *b]");
    }

    // Promise 12: "Writes the outermost node out: how many characters that are."
    private static void writeTellsHowMany() {
        Due.same("null", Due.loaded("").write(), 4);
        Due.same("[]", Due.loaded("[]").write(), 2);
        Due.same("an empty string", Due.loaded("''").write(), 2);
        Due.same("the longest string", Due.loaded("x".repeat(200)).write(), 202);
        Due.same("twice as long", Due.loaded("'" + "\"".repeat(198) + "'").write(), 398);
        Due.same("59 nothings", Due.loaded("-\n".repeat(59)).write(), 2 + 59 * 4 + 58 * 2);
    }

    // Promise 12: "IllegalStateException when nothing is loaded"
    private static void writeNeedsLoaded() {
        IndentedNotes x = new IndentedNotes();
        Due.thrown("write() of a new object", IllegalStateException.class, x::write);
        Due.type(x, "a");
        Due.thrown("write() before load()", IllegalStateException.class, x::write);
        x.load();
        Due.same("write() behind load()", x.write(), 3);
        x.wipe();
        Due.same("write() behind wipe()", x.write(), 3);
    }

    // Promise 13: "Character i of what was written out latest"
    private static void writtenCharacters() {
        IndentedNotes x = Due.loaded("[a, -1]");
        String due = "[\"a\", -1]";
        Due.same("write()", x.write(), due.length());
        for (int i = 0; i < due.length(); i++) {
            Due.same("written(" + i + ")", x.written(i), due.charAt(i));
        }
    }

    // Promise 13: "NONE."
    private static void writtenThatAreNone() {
        IndentedNotes x = Due.loaded("[a, -1]");
        Due.same("written(0) before write()", x.written(0), -1);
        int length = x.write();
        int[] none = {-1, length, length + 1, 200, 1999, 2000, Integer.MIN_VALUE, Integer.MAX_VALUE};
        for (int i : none) {
            Due.same("written(" + i + ")", x.written(i), -1);
        }
    }

    // ".. latest": neither what is loaded since nor what was written out before
    private static void writtenLatest() {
        IndentedNotes x = Due.loaded("[longer, than]");
        x.write();
        x.wipe();
        Due.same("behind wipe()", Due.written(x), "[\"longer\", \"than\"]");
        Due.type(x, "7");
        x.load();
        Due.same("behind load()", Due.written(x), "[\"longer\", \"than\"]");
        Due.same("write()", x.write(), 1);
        Due.same("behind write()", Due.written(x), "7");
    }

    // "What throws leaves everything as it was.": load, at whatever place the text turns out wrong
    private static void wrongTextLeavesAll() {
        String[] wrong = {"[", "[x, y, {z: 1, w: [}]", "- a\n- b: 'c\n", "k: |\n  a\n b", "[&a x, &b y, *c]",
            "a: 1\na: 2", "[" + "x,".repeat(60) + "x]", "[[[[[[[[[]]]]]]]]]", "-\n".repeat(60), "x\ny"};
        for (String text : wrong) {
            IndentedNotes x = Due.loaded("&a [*a, {k: 5, l: xy}, true]");
            String written = Due.writtenOut(x);
            String before = Due.looks(x);
            x.wipe();
            Due.type(x, text);
            Due.thrown("load() of " + text, IllegalArgumentException.class, x::load);
            Due.thrown("load() again of " + text, IllegalArgumentException.class, x::load);
            Due.same("what there is behind " + text, Due.looks(x), before);
            Due.same("what is written out behind " + text, Due.writtenOut(x), written);
            Due.same("the length of " + text, x.wipe(), text.length());
        }
    }

    // ".. everything": what was not there, too
    private static void wrongTextLeavesNothingLoaded() {
        IndentedNotes x = Due.typed("[a, [b, {c: d");
        Due.thrown("load()", IllegalArgumentException.class, x::load);
        Due.same("what there is", Due.looks(x), "written ");
        Due.thrown("write()", IllegalStateException.class, x::write);
        Due.same("written(0)", x.written(0), -1);
        Due.type(x, "}]]");
        Due.same("load() of the rest", x.load(), 7);
    }

    // ".. what throws": item, key and number
    private static void lookingLeavesAll() {
        IndentedNotes x = Due.loaded("{a: [1, xy], 2: true}");
        x.write();
        String before = Due.looks(x);
        for (int n = -1; n <= 8; n++) {
            int node = n;
            Due.thrown("item(" + n + ", 9)", IndexOutOfBoundsException.class, () -> x.item(node, 9));
            Due.thrown("key(" + n + ", 9)", IndexOutOfBoundsException.class, () -> x.key(node, 9));
        }
        Due.thrown("number(0)", IllegalArgumentException.class, () -> x.number(0));
        Due.thrown("number(8)", IllegalArgumentException.class, () -> x.number(8));
        Due.same("what there is", Due.looks(x), before);
        Due.same("the text", x.wipe(), 21);
    }

    // ".. what throws": write
    private static void writeLeavesAll() {
        IndentedNotes x = Due.typed("[1]");
        Due.thrown("write()", IllegalStateException.class, x::write);
        Due.same("what there is", Due.looks(x), "written ");
        Due.same("load()", x.load(), 2);
        Due.same("write()", Due.writtenOut(x), "[1]");
        Due.same("the text", x.wipe(), 3);
    }

    // "An object is used for at most 512 calls": the last of them answers as the first ones do
    private static void lastCall() {
        IndentedNotes x = new IndentedNotes();
        for (int call = 1; call <= 508; call += 4) {
            x.type('[', 1);
            Due.thrown("load() as call " + (call + 1), IllegalArgumentException.class, x::load);
            Due.same("type() as call " + (call + 2), x.type(']', 1), 2);
            Due.same("wipe() as call " + (call + 3), x.wipe(), 2);
        }
        Due.same("type() as call 509", x.type('7', 1), 1);
        Due.same("load() as call 510", x.load(), 1);
        Due.same("write() as call 511", x.write(), 1);
        Due.same("written(0) as call 512", x.written(0), '7');
    }
}
