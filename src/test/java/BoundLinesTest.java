/** The boundary cases of what is read in lines (Terms: blocks, parts, the outermost node): a test for each sentence. */
public final class BoundLinesTest {
    public static void main(String[] args) {
        rows();
        tables();
        parts();
        outermost();
        Due.end();
    }

    private static void rows() {
        dashMakesRow();
        itemsAtTheColumn();
        itemIsWhatFollows();
        rowEndsAtLess();
        rowEndsAtTextEnd();
        rowGoesOnAtDash();
        rowIsWrongOtherwise();
    }

    private static void tables() {
        colonMakesTable();
        quotedKey();
        plainKey();
        plainKeyEndsAtFirstColon();
        plainKeyWithoutBlanks();
        valueIsNoBlock();
        tableEndsAtLess();
        tableEndsAtTextEnd();
        tableGoesOnAtKey();
        tableIsWrongAtDash();
        tableIsWrongOtherwise();
        otherwiseInline();
    }

    private static void parts() {
        namingHasOneLetter();
        namingHasBlanksBehind();
        partInDeeperLine();
        partIsNothingAtSameDepth();
        partIsNothingAtLess();
        partIsNothingAtTextEnd();
        pieceMarkStandsAlone();
        itemMayBeBlock();
        valueIsInline();
    }

    private static void outermost() {
        inlineIsAllThatFollows();
        outermostAtFirstDepth();
        outermostNamingOnlyInline();
        whatIsLeftIsWrong();
        noLineIsNothing();
    }

    // "If there is a dash with a blank or nothing behind it, it is a ROW."
    private static void dashMakesRow() {
        Due.loads("- a", "[\"a\"]");
        Due.loads("-", "[null]");
        Due.loads("- ", "[null]");
        Due.loads("-\n", "[null]");
        Due.loads("   -", "[null]");
        Due.loads("- a: 1", "[{\"a\": 1}]");
        Due.loads("-a", "\"-a\"");
        Due.loads("--", "\"--\"");
        Due.loads("-- a", "\"-- a\"");
        Due.loads("-1", "-1");
        Due.loads("-a: 1", "{\"-a\": 1}");
    }

    // "Each of its items has such a dash at column c."
    private static void itemsAtTheColumn() {
        Due.loads("   - a\n   - b", "[\"a\", \"b\"]");
        Due.loads("- - a\n  - b\n- - c\n  - d", "[[\"a\", \"b\"], [\"c\", \"d\"]]");
        Due.loads("-    - a\n     - b", "[[\"a\", \"b\"]]");
        Due.loads("- &x - a\n     - b", "[[\"a\", \"b\"]]");
        Due.refuses("-    - a\n    - b");
        Due.refuses("-    - a\n      - b");
        Due.refuses("- &x - a\n  - b");
    }

    // "The item is what follows the dash and blanks, as a PART with this c."
    private static void itemIsWhatFollows() {
        Due.loads("- a", "[\"a\"]");
        Due.loads("-    a b", "[\"a b\"]");
        Due.loads("- -", "[[null]]");
        Due.loads("-\n a", "[\"a\"]");
        Due.loads(" -\n  a", "[\"a\"]");
        Due.refuses(" -\n a");
    }

    // "Behind an item: if the next line has a depth less than c .. the row ends"
    private static void rowEndsAtLess() {
        Due.loads("a:\n - x\nb: 1", "{\"a\": [\"x\"], \"b\": 1}");
        Due.loads("a:\n  -\nb: 1", "{\"a\": [null], \"b\": 1}");
        Due.loads("- - - x\n- y", "[[[\"x\"]], \"y\"]");
        Due.loads("- - - x\n  - y\n- z", "[[[\"x\"], \"y\"], \"z\"]");
        Due.loads("- - |\n   p\n- z", "[[\"p\\n\"], \"z\"]");
        // The row ends, but the line has no place in the row around it.
        Due.refuses("- - x\n - y");
        Due.refuses("- - x\ny");
    }

    // ".. or there is none, the row ends"
    private static void rowEndsAtTextEnd() {
        Due.loads("- x", "[\"x\"]");
        Due.loads("- - x\n\n   # y\n", "[[\"x\"]]");
        Due.loads("- x\n  # y", "[\"x\"]");
    }

    // "if it has the depth c and such a dash there, the next item begins there"
    private static void rowGoesOnAtDash() {
        Due.loads("- a\n-\n- ", "[\"a\", null, null]");
        Due.loads("  - [a]\n  - b: c\n\n  - |-\n   d\n  - 'e'", "[[\"a\"], {\"b\": \"c\"}, \"d\", \"e\"]");
        Due.loads("-\n  - a\n-\n  b\n- c", "[[\"a\"], \"b\", \"c\"]");
    }

    // "otherwise the text is WRONG": the depth c without such a dash, or a greater depth
    private static void rowIsWrongOtherwise() {
        Due.refuses("- a\nb");
        Due.refuses("- a\nb: 1");
        Due.refuses("- a\n-b");
        Due.refuses("- a\n--");
        Due.refuses("- a\n[b]");
        Due.refuses("- a\n- b\nc");
        Due.refuses("- a\n - b");
        Due.refuses("- a\n  b");
        Due.refuses("-\n  a\n  b");
        Due.refuses("-\n   a\n  - b");
        Due.refuses("- [a]\n b");
        Due.refuses("- - a\n   - b");
    }

    // "Otherwise, if there is a KEY with a colon, and a blank or nothing behind that, it is a TABLE."
    private static void colonMakesTable() {
        Due.loads("a: b", "{\"a\": \"b\"}");
        Due.loads("a:", "{\"a\": null}");
        Due.loads("a: ", "{\"a\": null}");
        Due.loads("a:\n", "{\"a\": null}");
        Due.loads("a:b", "\"a:b\"");
        Due.loads("a::", "{\"a:\": null}");
        Due.loads("a:,", "\"a:,\"");
        Due.loads("'a': 1", "{\"a\": 1}");
        Due.loads("'a':", "{\"a\": null}");
        Due.refuses("'a':b");
        Due.refuses(":");
        Due.refuses(": a");
    }

    // "A key is a quoted text, with the colon right behind it"
    private static void quotedKey() {
        Due.loads("\"a: b\": 1", "{\"a: b\": 1}");
        Due.loads("'- ''x': 1", "{\"- 'x\": 1}");
        Due.loads("'': 1", "{\"\": 1}");
        Due.loads("\"\\\"\": 1", "{\"\\\"\": 1}");
        Due.loads("' a ': 1", "{\" a \": 1}");
        Due.refuses("'a' : 1");
        Due.refuses("'a'b: 1");
        Due.refuses("'a: 1");
        Due.refuses("\"a\\\": 1");
        Due.refuses("\"\\x\": 1");
    }

    // ".. or a PLAIN text": with each first character that it may have, and with each that it may not
    private static void plainKey() {
        for (char c = 33; c <= 126; c++) {
            boolean begins = Character.isLetterOrDigit(c) || "_.+/~(<=$^-".indexOf(c) >= 0;
            if (begins) {
                Due.loads(c + "z: 1", "{\"" + c + "z\": 1}");
            } else if (c != '#') {
                Due.refuses(c + "z: 1");
            }
        }
        Due.loads("1: a\n~: b\ntrue: c\n-2: d\n0x1f: e", "{1: \"a\", null: \"b\", true: \"c\", -2: \"d\", 31: \"e\"}");
        Due.loads("a, [b] {c}: 1", "{\"a, [b] {c}\": 1}");
    }

    // "all up to the first colon with a blank or nothing behind it"
    private static void plainKeyEndsAtFirstColon() {
        Due.loads("a:b:c: d", "{\"a:b:c\": \"d\"}");
        Due.loads("a :b: c", "{\"a :b\": \"c\"}");
        Due.loads("a::", "{\"a:\": null}");
        Due.loads("a: b:c", "{\"a\": \"b:c\"}");
        Due.refuses("a: b: c");
        Due.refuses("a: b:");
    }

    // ".. without blanks at its end"
    private static void plainKeyWithoutBlanks() {
        Due.loads("a : 1", "{\"a\": 1}");
        Due.loads("a b    : 1", "{\"a b\": 1}");
        Due.loads("null : 1", "{null: 1}");
        Due.refuses("a: 1\na : 2");
    }

    // "Its value is what follows the colon and blanks, as a PART with this c, but not a block"
    private static void valueIsNoBlock() {
        Due.loads("a:    b", "{\"a\": \"b\"}");
        Due.loads("a: -b", "{\"a\": \"-b\"}");
        Due.loads("a: [b]", "{\"a\": [\"b\"]}");
        Due.refuses("a: - b");
        Due.refuses("a: -");
        Due.refuses("a: b: c");
        Due.refuses("a: 'b': c");
        Due.refuses("a: &x b: c");
        Due.refuses("a: &x - b");
    }

    // "Behind a value, the same as for a row": a depth less than c
    private static void tableEndsAtLess() {
        Due.loads("- a: 1\n- b", "[{\"a\": 1}, \"b\"]");
        Due.loads("a:\n b: 1\nc: 2", "{\"a\": {\"b\": 1}, \"c\": 2}");
        Due.loads("a:\n  b:\n   c:\nd:", "{\"a\": {\"b\": {\"c\": null}}, \"d\": null}");
        Due.refuses("- a: 1\n b: 2");
        Due.refuses(" a: 1\nb: 2");
    }

    // ".. no next line"
    private static void tableEndsAtTextEnd() {
        Due.loads("a: 1", "{\"a\": 1}");
        Due.loads("- a: 1\n\n      # b: 2\n", "[{\"a\": 1}]");
    }

    // ".. a key in place of the dash"
    private static void tableGoesOnAtKey() {
        Due.loads("a: 1\n'b': 2\n3:\n-c: 4", "{\"a\": 1, \"b\": 2, 3: null, \"-c\": 4}");
        Due.loads("- a: 1\n  b: 2", "[{\"a\": 1, \"b\": 2}]");
        Due.loads("-  a:\n   b: |\n    x\n   c:", "[{\"a\": null, \"b\": \"x\\n\", \"c\": null}]");
    }

    // "(and a line with a dash there is WRONG)"
    private static void tableIsWrongAtDash() {
        Due.refuses("a: 1\n- b");
        Due.refuses("a: 1\n-");
        Due.refuses("a:\n- b");
        Due.refuses("a:\n-");
        Due.refuses("a: 1\n- b: 2");
        Due.refuses("- a: 1\n  - b");
        Due.refuses("- a:\n  - b");
    }

    // ".. otherwise the text is WRONG": the depth c without a key, or a greater depth
    private static void tableIsWrongOtherwise() {
        Due.refuses("a: 1\nb");
        Due.refuses("a: 1\nb:2");
        Due.refuses("a: 1\n'b'");
        Due.refuses("a: 1\n'b' : 2");
        Due.refuses("a: 1\n[b]");
        Due.refuses("a: 1\n[b]: 2");
        Due.refuses("a: 1\n{b: 2}");
        Due.refuses("a: 1\n: 2");
        Due.refuses("a: 1\n b: 2");
        Due.refuses("a:\n  b: 1\n   c: 2");
        Due.refuses("a:\n  b: 1\n c: 2");
        Due.refuses("a:\n  b\n c");
    }

    // "Otherwise it is INLINE."
    private static void otherwiseInline() {
        Due.loads("a", "\"a\"");
        Due.loads("- a", "[\"a\"]");
        Due.loads("a:\n  [b]", "{\"a\": [\"b\"]}");
        Due.loads("-\n  'b'", "[\"b\"]");
        Due.loads("-\n  &b [*b]", "[&a [*a]]");
        Due.refuses("?");
        Due.refuses("-\n  ?");
        Due.refuses("-\n  |\n   b");
    }

    // "a NAMING: & and a letter a .. z"
    private static void namingHasOneLetter() {
        for (char c = 33; c <= 126; c++) {
            if (c >= 'a' && c <= 'z') {
                Due.loads("- &" + c + " x\n- *" + c, "[&a \"x\", *a]");
                Due.loads("k: &" + c + " x\nl: *" + c, "{\"k\": &a \"x\", \"l\": *a}");
            } else {
                Due.refuses("- &" + c + " x");
                Due.refuses("k: &" + c + " x");
                Due.refuses("- &" + c);
            }
        }
        Due.refuses("- & x");
        Due.refuses("- &");
        Due.refuses("- & a x");
        Due.refuses("k: &");
    }

    // ".. and blanks or nothing behind it"
    private static void namingHasBlanksBehind() {
        Due.loads("- &a x\n- &b    y\n- &c\n- &d  \n- [*a, *b, *c, *d]",
            "[&a \"x\", &b \"y\", &c null, &d null, [*a, *b, *c, *d]]");
        Due.refuses("- &ax");
        Due.refuses("- &a[x]");
        Due.refuses("- &a'x'");
        Due.refuses("- &a|");
        Due.refuses("- &a-");
        Due.refuses("- &a: 1");
        Due.refuses("k: &a1");
    }

    // "If nothing follows in the line: if the next line has a depth greater than c, the block at its depth"
    private static void partInDeeperLine() {
        Due.loads("-\n a", "[\"a\"]");
        Due.loads("-\n      a", "[\"a\"]");
        Due.loads("-\n - a\n - b", "[[\"a\", \"b\"]]");
        Due.loads("-\n a: 1\n b: 2", "[{\"a\": 1, \"b\": 2}]");
        Due.loads("a:\n - b", "{\"a\": [\"b\"]}");
        Due.loads("a:\n b: c", "{\"a\": {\"b\": \"c\"}}");
        Due.loads("- a:\n   b", "[{\"a\": \"b\"}]");
        Due.loads("- -\n   b", "[[\"b\"]]");
        Due.loads("- &a\n - b\n - *a", "[&a [\"b\", *a]]");
        Due.loads("a: &a\n b: *a", "{\"a\": &a {\"b\": *a}}");
    }

    // ".. otherwise NOTHING": a next line of the same depth
    private static void partIsNothingAtSameDepth() {
        Due.loads("-\n- a", "[null, \"a\"]");
        Due.loads("a:\nb: 1", "{\"a\": null, \"b\": 1}");
        Due.loads("- a:\n  b: 1", "[{\"a\": null, \"b\": 1}]");
        Due.loads("- -\n  - b", "[[null, \"b\"]]");
        Due.loads("- &a\n- *a", "[&a null, *a]");
        Due.loads("a: &a\nb: *a", "{\"a\": &a null, \"b\": *a}");
    }

    // ".. otherwise NOTHING": a next line of a lesser depth
    private static void partIsNothingAtLess() {
        Due.loads("- -\n- a", "[[null], \"a\"]");
        Due.loads("- a:\n- b", "[{\"a\": null}, \"b\"]");
        Due.loads("a:\n - &b\nc: *b", "{\"a\": [&a null], \"c\": *a}");
        Due.refuses("- a:\n b");
        Due.refuses("- -\n b");
    }

    // ".. otherwise NOTHING": no next line
    private static void partIsNothingAtTextEnd() {
        Due.loads("-", "[null]");
        Due.loads("a:", "{\"a\": null}");
        Due.loads("- &a", "[null]");
        Due.loads("a: &a\n\n   # b", "{\"a\": null}");
    }

    // "If just | or |- follows, it is a PIECE with this c."
    private static void pieceMarkStandsAlone() {
        Due.loads("- |\n x\n-  |-\n y", "[\"x\\n\", \"y\"]");
        Due.loads("a: |\n x\nb: |-\n y", "{\"a\": \"x\\n\", \"b\": \"y\"}");
        Due.loads("- &a |\n x\n- &b |-\n y\n- [*a, *b]", "[&a \"x\\n\", &b \"y\", [*a, *b]]");
        Due.refuses("- ||\n x");
        Due.refuses("- |--\n x");
        Due.refuses("- |+\n x");
        Due.refuses("- | -\n x");
        Due.refuses("- |x");
        Due.refuses("- | x");
        Due.refuses("a: |x");
        Due.refuses("a: |- x");
        Due.refuses("- a: | #");
        Due.refuses("- |: x");
    }

    // "If something else follows in the line: for an item of a row, a block there"
    private static void itemMayBeBlock() {
        Due.loads("- - a\n  - b", "[[\"a\", \"b\"]]");
        Due.loads("- a: 1\n  b: 2", "[{\"a\": 1, \"b\": 2}]");
        Due.loads("- &x a: *x\n     b: 2", "[&a {\"a\": *a, \"b\": 2}]");
        Due.loads("- &x - *x\n     - b", "[&a [*a, \"b\"]]");
        Due.loads("- [a]\n- b", "[[\"a\"], \"b\"]");
        // The block's column is where it stands, not where its naming does.
        Due.refuses("- &x a: 1\n  b: 2");
    }

    // ".. for a value, INLINE"
    private static void valueIsInline() {
        Due.loads("a: &x [*x]\nb: 'c'", "{\"a\": &a [*a], \"b\": \"c\"}");
        Due.refuses("a: - b");
        Due.refuses("a: b: c");
        Due.refuses("a: &x - b");
        Due.refuses("a: &x b: c");
        Due.refuses("a: ?");
    }

    // "INLINE is all that follows in the line, a VALUE as below."
    private static void inlineIsAllThatFollows() {
        Due.loads("- a b, c] {d", "[\"a b, c] {d\"]");
        Due.loads("- [a]  ", "[[\"a\"]]");
        Due.refuses("[a] b");
        Due.refuses("[a],");
        Due.refuses("- {} {}");
        Due.refuses("- 'a' b");
        Due.refuses("- \"a\"\"b\"");
        Due.refuses("- &a x\n- *a *a");
        Due.refuses("- &a x\n- *a,");
        Due.refuses("a: [b] # c");
    }

    // "The outermost node of a text is the block at the depth of its first line that is not void"
    private static void outermostAtFirstDepth() {
        Due.loads("#\n\n   - a\n   - b", "[\"a\", \"b\"]");
        Due.loads("    a: 1\n    b: 2", "{\"a\": 1, \"b\": 2}");
        Due.loads("  x", "\"x\"");
        Due.refuses("|");
        Due.refuses("|-\n a");
    }

    // "it may have a naming in front only if it is inline"
    private static void outermostNamingOnlyInline() {
        Due.loads("&a x", "\"x\"");
        Due.loads("&a [*a]", "&a [*a]");
        Due.loads("  &z   {k: *z}", "&a {\"k\": *a}");
        Due.refuses("&a - x");
        Due.refuses("&a x: 1");
        Due.refuses("&a 'x': 1");
        Due.refuses("&a\n- x");
        Due.refuses("&a\n  x");
        Due.refuses("&a\nx: 1");
        Due.refuses("&a |\n  x");
        Due.refuses("&a");
    }

    // "What is left behind it, if any line is, is WRONG."
    private static void whatIsLeftIsWrong() {
        Due.loads("a\n\n  # b\n   \n", "\"a\"");
        Due.refuses("a\nb");
        Due.refuses("a\n b");
        Due.refuses(" a\nb");
        Due.refuses("[a]\n- b");
        Due.refuses(" - a\nb");
        Due.refuses("  a: 1\n b: 2");
        Due.refuses("&a [x]\n*a");
    }

    // "A text without such a line is NOTHING."
    private static void noLineIsNothing() {
        Due.kinds("", 0);
        Due.kinds("\n", 0);
        Due.kinds("    ", 0);
        Due.kinds("# a", 0);
        Due.kinds(" \n  # a\n#\n\n", 0);
    }
}
