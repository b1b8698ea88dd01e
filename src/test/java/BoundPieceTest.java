/** The boundary cases of pieces (Terms): a test for each sentence. */
public final class BoundPieceTest {
    public static void main(String[] args) {
        takesLinesDeeperThanC();
        stopsAtDepthNotGreater();
        goesOnOverBlankLines();
        takesVoidLinesAsTheyStand();
        takesAllToTheTextEnd();
        leavesBlankLinesAtEnd();
        columnIsOfTheFirst();
        blankLinesGiveNoColumn();
        lesserDepthIsWrong();
        blanksAtEndStay();
        shorterLinesAreNothing();
        lineEndsBetween();
        oneMoreLineEnd();
        noLines();
        Due.end();
    }

    // "A PIECE with c takes all lines that follow": c is the column of its row or table, wherever the mark stands
    private static void takesLinesDeeperThanC() {
        Due.loads("- |\n a", "[\"a\\n\"]");
        Due.loads("k: |\n a", "{\"k\": \"a\\n\"}");
        Due.loads("-      |\n a", "[\"a\\n\"]");
        Due.loads("  - |\n   a", "[\"a\\n\"]");
        Due.loads("- - |\n   a", "[[\"a\\n\"]]");
        Due.loads("- k: |\n   a", "[{\"k\": \"a\\n\"}]");
        Due.loads("- &x - |\n      a", "[[\"a\\n\"]]");
        Due.loads("- &x |\n a", "[\"a\\n\"]");
    }

    // "up to but not including the first one that has a character other than a blank and a depth not greater than c"
    private static void stopsAtDepthNotGreater() {
        Due.loads("- |\n a\n- b", "[\"a\\n\", \"b\"]");
        Due.loads("k: |\n a\nl: b", "{\"k\": \"a\\n\", \"l\": \"b\"}");
        Due.loads("- - |\n   a\n  - b", "[[\"a\\n\", \"b\"]]");
        Due.loads("- - |\n   a\n- b", "[[\"a\\n\"], \"b\"]");
        Due.loads("- |\n a\n# c\n- b", "[\"a\\n\", \"b\"]");
        Due.loads("- |\n- b", "[\"\", \"b\"]");
        // What stops the piece has to have its place behind it.
        Due.refuses("- |\na");
        Due.refuses("- |\n a\nb");
        Due.refuses("- k: |\n  a");
        Due.refuses("- - |\n  a");
        Due.refuses("- - |\n a");
        Due.refuses("- |\n a\n# c\n d");
    }

    // ".. that has a character other than a blank": a line of blanks stops nothing, whatever its depth is
    private static void goesOnOverBlankLines() {
        Due.loads("- |\n a\n\n b", "[\"a\\n\\nb\\n\"]");
        Due.loads("  - |\n   a\n\n \n  \n   b", "[\"a\\n\\n\\n\\nb\\n\"]");
    }

    // "all lines that follow": those that are void elsewhere, or would be wrong, too
    private static void takesVoidLinesAsTheyStand() {
        Due.loads("- |\n # a\n #\n b", "[\"# a\\n#\\nb\\n\"]");
        Due.loads("- |\n - a\n b: c\n &d *e\n [\n \"\\", "[\"- a\\nb: c\\n&d *e\\n[\\n\\\"\\\\\\n\"]");
        Due.loads("- |\n |\n  a", "[\"|\\n a\\n\"]");
    }

    // "all lines that follow": to the end of the text
    private static void takesAllToTheTextEnd() {
        Due.loads("- |-\n a\n  b", "[\"a\\n b\"]");
        Due.loads("- |-\n a\n  b\n", "[\"a\\n b\"]");
        Due.same("a piece of all that a text can have", Due.loaded("- |\n " + "x".repeat(195)).size(1), 196);
    }

    // "of these those at the end that have only blanks are left out"
    private static void leavesBlankLinesAtEnd() {
        Due.loads("- |\n a\n", "[\"a\\n\"]");
        Due.loads("- |\n a\n\n\n", "[\"a\\n\"]");
        Due.loads("- |\n a\n     \n\n    ", "[\"a\\n\"]");
        Due.loads("- |-\n a\n     \n\n    \n- b", "[\"a\", \"b\"]");
        Due.loads("- |-\n a\n\n# c\n\n- b", "[\"a\", \"b\"]");
        Due.loads("- |\n a\n" + "\n".repeat(193), "[\"a\\n\"]");
    }

    // "Its COLUMN is the depth of the first of them that has another character"
    private static void columnIsOfTheFirst() {
        Due.loads("- |\n a\n  b\n    c\n d", "[\"a\\n b\\n   c\\nd\\n\"]");
        Due.loads("- |\n    a\n    b\n     c", "[\"a\\nb\\n c\\n\"]");
        Due.loads("- |\n   # a\n    b", "[\"# a\\n b\\n\"]");
    }

    // ".. that has another character": lines of blanks in front of it, shorter and longer ones
    private static void blankLinesGiveNoColumn() {
        Due.loads("- |\n\n   a", "[\"\\na\\n\"]");
        Due.loads("- |\n \n   a", "[\"\\na\\n\"]");
        Due.loads("- |\n   \n   a", "[\"\\na\\n\"]");
        Due.loads("- |\n     \n   a", "[\"  \\na\\n\"]");
    }

    // "a line of them that has one must not have a lesser depth"
    private static void lesserDepthIsWrong() {
        Due.refuses("- |\n  a\n b");
        Due.refuses("- |\n    a\n    b\n   c");
        Due.refuses("- |\n  a\n # b");
        Due.refuses("- |\n  a\n\n b\n  c");
        Due.refuses("- |\n\n  a\n b: 1");
        Due.loads("- |\n  a\n \n  b", "[\"a\\n\\nb\\n\"]");
    }

    // "of each line what stands from that column on (with blanks at the end"
    private static void blanksAtEndStay() {
        Due.loads("- |\n a  \n b ", "[\"a  \\nb \\n\"]");
        Due.loads("- |-\n a   ", "[\"a   \"]");
        Due.loads("- |\n a\n    \n b", "[\"a\\n   \\nb\\n\"]");
    }

    // ".. nothing if it is shorter)": shorter than the column, just as long, and one longer
    private static void shorterLinesAreNothing() {
        Due.loads("- |\n   a\n  \n   b", "[\"a\\n\\nb\\n\"]");
        Due.loads("- |\n   a\n   \n   b", "[\"a\\n\\nb\\n\"]");
        Due.loads("- |\n   a\n    \n   b", "[\"a\\n \\nb\\n\"]");
        Due.loads("- |\n   a\n\n   b", "[\"a\\n\\nb\\n\"]");
    }

    // "a line end between every two"
    private static void lineEndsBetween() {
        Due.loads("- |-\n a", "[\"a\"]");
        Due.loads("- |-\n a\n b", "[\"a\\nb\"]");
        Due.loads("- |-\n a\n\n\n b", "[\"a\\n\\n\\nb\"]");
        Due.loads("- |-\n\n\n a", "[\"\\n\\na\"]");
        Due.same("as many as there can be", Due.loaded("- |-\n" + "\n".repeat(193) + " a").size(1), 194);
    }

    // "and, with | (not |-), one more at the end"
    private static void oneMoreLineEnd() {
        Due.loads("- |\n a\n b", "[\"a\\nb\\n\"]");
        Due.loads("- |-\n a\n b", "[\"a\\nb\"]");
        Due.loads("- |\n a\n- |-\n b\n- |\n c", "[\"a\\n\", \"b\", \"c\\n\"]");
    }

    // ".. if there are any lines"
    private static void noLines() {
        Due.loads("- |", "[\"\"]");
        Due.loads("- |-", "[\"\"]");
        Due.loads("- |\n\n  \n", "[\"\"]");
        Due.loads("- |-\n     \n", "[\"\"]");
        Due.loads("a: |\nb: |-\nc:", "{\"a\": \"\", \"b\": \"\", \"c\": null}");
        Due.loads("- |\n    \n# a\n", "[\"\"]");
        Due.kinds("- |", 4, 3);
    }
}
