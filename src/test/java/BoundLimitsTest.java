/** The boundary cases of what makes a text WRONG "too", and of the order of nodes (Terms): a test for each sentence. */
public final class BoundLimitsTest {
    public static void main(String[] args) {
        order();
        keysBothNothing();
        keysSameTruth();
        keysSameNumber();
        keysSameString();
        keysOfOtherKinds();
        keysOfOtherTables();
        moreThan60Nodes();
        repeatsAreNoNodes();
        deepRows();
        deepKeysAndValues();
        deepLines();
        deepRepeatsDoNotCount();
        keyHasNoNaming();
        keyIsNoRepeat();
        keyIsNoBracket();
        Due.end();
    }

    // "NODES are numbered 0, 1, .. in the order in which they begin."
    private static void order() {
        Due.kinds("{a: [1, {b: true}], ~: x}", 5, 3, 4, 2, 5, 3, 1, 0, 3);
        Due.kinds("- a:\n   - 1\n  2: ~\n- |-\n  p\n- true", 4, 5, 3, 4, 2, 2, 0, 3, 1);
        Due.kinds("a:\nb: 1", 5, 3, 0, 3, 2);
        Due.kinds("{a: , b: 1}", 5, 3, 0, 3, 2);
        Due.kinds("- &a\n- *a\n- 1", 4, 0, 2);
    }

    // "WRONG, too, if two keys of a table are both nothing"
    private static void keysBothNothing() {
        Due.refuses("~: 1\n~: 2");
        Due.refuses("null: 1\n~: 2");
        Due.refuses("{null: 1, a: 2, ~: 3}");
        Due.loads("~: 1\n'~': 2\n'null': 3\n'': 4", "{null: 1, \"~\": 2, \"null\": 3, \"\": 4}");
    }

    // ".. the same truth"
    private static void keysSameTruth() {
        Due.refuses("true: 1\ntrue: 2");
        Due.refuses("{false: 1, true: 2, false: 3}");
        Due.loads("true: 1\nfalse: 2\n'true': 3", "{true: 1, false: 2, \"true\": 3}");
    }

    // ".. the same number"
    private static void keysSameNumber() {
        Due.refuses("1: a\n1: b");
        Due.refuses("1: a\n+1: b");
        Due.refuses("1: a\n01: b");
        Due.refuses("31: a\n0x1f: b");
        Due.refuses("{0: a, 1: b, -0: c}");
        Due.refuses("999999999999999999: a\n+999999999999999999: b");
        Due.loads("1: a\n-1: b\n0: c\n10: d", "{1: \"a\", -1: \"b\", 0: \"c\", 10: \"d\"}");
        // These differ only above the lowest 32 bits.
        Due.loads("0x100000001: a\n1: b\n0x200000001: c", "{4294967297: \"a\", 1: \"b\", 8589934593: \"c\"}");
    }

    // ".. or the same string"
    private static void keysSameString() {
        Due.refuses("a: 1\na: 2");
        Due.refuses("a: 1\nb: 2\nc: 3\na: 4");
        Due.refuses("a: 1\n'a': 2");
        Due.refuses("'a': 1\n\"a\": 2");
        Due.refuses("{a: 1, \"a\": 2}");
        Due.refuses("'': 1\n\"\": 2");
        Due.refuses("'a\"': 1\n\"a\\\"\": 2");
        Due.refuses("- a: 1\n  a: 2");
        Due.loads("ab: 1\nac: 2\na: 3\nb: 4\nabc: 5\nA: 6",
            "{\"ab\": 1, \"ac\": 2, \"a\": 3, \"b\": 4, \"abc\": 5, \"A\": 6}");
    }

    // "both": keys of two kinds are never the same
    private static void keysOfOtherKinds() {
        Due.loads("1: a\n'1': b\ntrue: c\n0: d\nfalse: e\n~: f\n'': g",
            "{1: \"a\", \"1\": \"b\", true: \"c\", 0: \"d\", false: \"e\", null: \"f\", \"\": \"g\"}");
    }

    // "of a table": keys of two tables may be the same
    private static void keysOfOtherTables() {
        Due.loads("[{a: 1}, {a: 1}]", "[{\"a\": 1}, {\"a\": 1}]");
        Due.loads("a:\n  a:\n    a: 1\nb:\n  a:", "{\"a\": {\"a\": {\"a\": 1}}, \"b\": {\"a\": null}}");
    }

    // "if there are more than 60 nodes"
    private static void moreThan60Nodes() {
        Due.same("60 in brackets", Due.typed("[" + "1,".repeat(58) + "1]").load(), 60);
        Due.refuses("[" + "1,".repeat(59) + "1]");
        Due.same("60 in lines", Due.typed("-\n".repeat(59)).load(), 60);
        Due.refuses("-\n".repeat(60));
        Due.same("60 with keys", Due.typed("[{" + table(29) + "}]").load(), 60);
        Due.same("59 with keys", Due.typed("{" + table(29) + "}").load(), 59);
        Due.refuses("{" + table(30) + "}");
        Due.refuses("[1,{" + table(29) + "}]");
        Due.same("60 with a piece", Due.typed("-\n".repeat(58) + "- |").load(), 60);
        Due.refuses("-\n".repeat(59) + "- |");
        Due.same("60 with rows", Due.typed("[" + "[],".repeat(58) + "{}]").load(), 60);
        Due.refuses("[" + "[],".repeat(59) + "{}]");
        IndentedNotes x = Due.loaded("[" + "1,".repeat(58) + "x]");
        Due.same("the last of 60", x.letter(59, 0), 'x');
        Due.same("one behind 60", x.kind(60), -1);
    }

    private static String table(int entries) {
        StringBuilder all = new StringBuilder();
        for (int i = 0; i < entries; i++) {
            all.append(i == 0 ? "" : ",").append(i < 26 ? (char) ('a' + i) : (char) ('A' + i - 26)).append(':');
        }
        return all.toString();
    }

    // A node that is had once more is no new one.
    private static void repeatsAreNoNodes() {
        Due.same("2 nodes, 65 items", Due.typed("[&a 1" + ",*a".repeat(64) + "]").load(), 2);
        Due.same("60 nodes, 84 items", Due.typed("[&a 1" + ",1".repeat(58) + ",*a".repeat(25) + "]").load(), 60);
        Due.refuses("[&a 1" + ",1".repeat(59) + ",*a".repeat(24) + "]");
    }

    // "if nodes lie more than eight deep (the outermost being 1; an item .. one more than its row"
    private static void deepRows() {
        Due.same("a row at 8", Due.typed("[[[[[[[[]]]]]]]]").load(), 8);
        Due.same("an item at 8", Due.typed("[[[[[[[a]]]]]]]").load(), 8);
        Due.refuses("[[[[[[[[a]]]]]]]]");
        Due.refuses("[[[[[[[[[]]]]]]]]]");
        Due.refuses("[[[[[[[['']]]]]]]]");
        Due.refuses("[[[[[[[[{}]]]]]]]]");
        Due.same("deep, then not", Due.typed("[[[[[[[a]]]]]], [[[[[[b]]]]]]]").load(), 15);
        Due.refuses("[".repeat(200));
        Due.refuses("[".repeat(100) + "]".repeat(100));
    }

    // ".. a key or a value one more than its .. table"
    private static void deepKeysAndValues() {
        Due.same("a table at 8", Due.typed("[[[[[[[{}]]]]]]]").load(), 8);
        Due.same("a key and a value at 8", Due.typed("[[[[[[{a: 1}]]]]]]").load(), 9);
        Due.same("a key and nothing at 8", Due.typed("[[[[[[{a:}]]]]]]").load(), 9);
        Due.loads("[[[[[[{a: 1, b: [], 2:}]]]]]]", "[[[[[[{\"a\": 1, \"b\": [], 2: null}]]]]]]");
        Due.refuses("[[[[[[[{a: 1}]]]]]]]");
        Due.refuses("[[[[[[[{a:}]]]]]]]");
        Due.refuses("[&x 1, [[[[[[{a: *x}]]]]]]]");
        Due.same("a value at 8", Due.typed("{a: {a: {a: {a: {a: {a: {a: 1}}}}}}}").load(), 15);
        Due.same("a table as value at 8", Due.typed("{a: {a: {a: {a: {a: {a: {a: {}}}}}}}}").load(), 15);
        Due.refuses("{a: {a: {a: {a: {a: {a: {a: [1]}}}}}}}");
        Due.refuses("{a: {a: {a: {a: {a: {a: {a: {a: }}}}}}}}");
        Due.refuses("{a: ".repeat(50));
    }

    // ".. more than eight deep", in lines
    private static void deepLines() {
        Due.same("an item at 8", Due.typed("- - - - - - - a").load(), 8);
        Due.same("nothing at 8", Due.typed("- - - - - - -").load(), 8);
        Due.same("a piece at 8", Due.typed("- - - - - - - |").load(), 8);
        Due.same("a key and a value at 8", Due.typed("- - - - - - a: 1").load(), 9);
        Due.refuses("- - - - - - - - a");
        Due.refuses("- - - - - - - -");
        Due.refuses("- - - - - - - - |");
        Due.refuses("- - - - - - - a: 1");
        Due.refuses("- - - - - - - a:");
        Due.refuses("- &x 1\n- - - - - - - a: *x");
        Due.refuses("- - - - - - - [a]");
        Due.same("tables at 1 to 7", Due.typed("a:\n b:\n  c:\n   d:\n    e:\n     f:\n      g: 1").load(), 15);
        Due.refuses("a:\n b:\n  c:\n   d:\n    e:\n     f:\n      g:\n       h: 1");
        Due.same("lines, then brackets", Due.typed("a:\n  - b: [[[[[]]]]]").load(), 10);
        Due.refuses("a:\n  - b: [[[[[[]]]]]]");
        Due.refuses("- ".repeat(100));
    }

    // "one that is had once more does not count"
    private static void deepRepeatsDoNotCount() {
        Due.loads("&a [[[[[[[[*a]]]]]]]]", "&a [[[[[[[[*a]]]]]]]]");
        Due.loads("[&x 1, [[[[[[[*x]]]]]]]]", "[&a 1, [[[[[[[*a]]]]]]]]");
        Due.loads("[&x [[[[[[a]]]]]], [[[[[[[*x]]]]]]]]", "[&a [[[[[[\"a\"]]]]]], [[[[[[[*a]]]]]]]]");
        Due.loads("- &x [1]\n- - - - - - - - *x", "[&a [1], [[[[[[[*a]]]]]]]]");
    }

    // "or if a key has a naming"
    private static void keyHasNoNaming() {
        Due.refuses("{&a b: 1}");
        Due.refuses("{&a 'b': 1}");
        Due.refuses("a: 1\n&b c: 2");
        Due.refuses("&a b: 1");
        // Here it is the table that has the naming.
        Due.loads("- &a b: *a", "[&a {\"b\": *a}]");
    }

    // ".. or is *"
    private static void keyIsNoRepeat() {
        Due.refuses("[&a b, {*a: 1}]");
        Due.refuses("[&a b, {*a : 1}]");
        Due.refuses("- &a b\n- *a: 1");
        Due.refuses("- &a b\n- *a : 1");
        Due.refuses("a: &a b\n*a: 1");
        Due.refuses("*a: 1");
    }

    // ".. or a bracket"
    private static void keyIsNoBracket() {
        Due.refuses("[a]: 1");
        Due.refuses("{}: 1");
        Due.refuses("{a: 1}: 2");
        Due.refuses("{[a]: 1}");
        Due.refuses("{{}: 1}");
        Due.refuses("{[]: 1}");
        Due.refuses("b: 1\n[a]: 2");
        Due.refuses("- [a]: 1");
    }
}
