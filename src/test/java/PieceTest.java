/** Promise 4: pieces kept as they stand. */
public final class PieceTest {
    public static void main(String[] args) {
        Due.loads("- |\n  a\n  b", "[\"a\\nb\\n\"]");
        Due.loads("- |-\n  a\n  b", "[\"a\\nb\"]");
        Due.loads("- |  \n  a", "[\"a\\n\"]");
        Due.loads("- |-", "[\"\"]");
        Due.loads("- |\n\n   \n", "[\"\"]");
        Due.loads("- |\n- |-\n-", "[\"\", \"\", null]");
        Due.loads("a: |\n b\nc: 1", "{\"a\": \"b\\n\", \"c\": 1}");
        depths();
        blanks();
        marks();
        Due.refuses("- | x");
        Due.refuses("- |x");
        Due.refuses("- |--");
        Due.refuses("- ||");
        Due.refuses("a: [|]");
        Due.end();
    }

    private static void depths() {
        Due.loads("- |\n  a\n    b\n   c", "[\"a\\n  b\\n c\\n\"]");
        Due.loads("- - |\n   a\n  - b\n- c", "[[\"a\\n\", \"b\"], \"c\"]");
        Due.loads("- a: |\n   x\n  b: 1", "[{\"a\": \"x\\n\", \"b\": 1}]");
        Due.refuses("- a: |\n  x");
        Due.refuses("- |\n  a\n b");
        Due.refuses("- |\n\n   a\n  b");
        Due.refuses("- |\na");
        Due.refuses("- |\n  a\nb: 1");
    }

    private static void blanks() {
        Due.loads("- |\n  a  \n\n  b\n", "[\"a  \\n\\nb\\n\"]");
        Due.loads("- |\n\n \n  a\n     \n  b\n   \n\n- c", "[\"\\n\\na\\n   \\nb\\n\", \"c\"]");
        Due.loads("- |-\n     \n  a", "[\"   \\na\"]");
    }

    private static void marks() {
        Due.loads("- |\n  # a\n  - b\n  c: &d *e\n# f\n- g", "[\"# a\\n- b\\nc: &d *e\\n\", \"g\"]");
        Due.loads("- |-\n  \"\\", "[\"\\\"\\\\\"]");
        Due.refuses("- |\n  a\n# b\n  c");
    }
}
