/** Promises 12 and 13: write and written; and that what throws leaves everything as it was. */
public final class WriteTest {
    public static void main(String[] args) {
        forms();
        letters();
        edges();
        latest();
        wrongTextLeavesAll();
        Due.end();
    }

    private static void forms() {
        Due.loads("~", "null");
        Due.loads("true", "true");
        Due.loads("false", "false");
        Due.loads("-0012", "-12");
        Due.loads("100", "100");
        Due.loads("- |\n  a\\b\n  \"c\"", "[\"a\\\\b\\n\\\"c\\\"\\n\"]");
        Due.loads("a:\n - b", "{\"a\": [\"b\"]}");
        Due.loads("- 1\n- x: 2\n  y:\n    - z", "[1, {\"x\": 2, \"y\": [\"z\"]}]");
    }

    private static void letters() {
        Due.loads("- &x 1\n- &y [*x]\n- *y", "[&a 1, &b [*a], *b]");
        Due.loads("[&x 1, &y 2, *y, *x]", "[&a 1, &b 2, *b, *a]");
        Due.loads("[&x [&y 1], *y, *x]", "[&a [&b 1], *b, *a]");
        Due.loads("&x {k: &y {l: *x, m: *y}}", "&a {\"k\": &b {\"l\": *a, \"m\": *b}}");
        Due.loads("&x [1]", "[1]");
        Due.loads("[&x 1, 1, *x]", "[&a 1, 1, *a]");
        Due.loads("[&x ~, *x, &x '', *x, &x true, *x]", "[&a null, *a, &b \"\", *b, &c true, *c]");
        String text = "&a [*a" + ",&a 1,*a".repeat(24) + "]";
        StringBuilder want = new StringBuilder("&a [*a");
        for (char c = 'b'; c <= 'y'; c++) {
            want.append(", &").append(c).append(" 1, *").append(c);
        }
        Due.loads(text, want.append("]").toString());
    }

    private static void edges() {
        IndentedNotes x = Due.loaded("[1]");
        Due.same("written(0) before write()", x.written(0), -1);
        Due.same("write()", x.write(), 3);
        Due.same("written(0)", x.written(0), '[');
        Due.same("written(2)", x.written(2), ']');
        int[] none = {3, -1, 2000, 2001, Integer.MIN_VALUE, Integer.MAX_VALUE};
        for (int i : none) {
            Due.same("written(" + i + ")", x.written(i), -1);
        }
    }

    private static void latest() {
        IndentedNotes x = Due.loaded("[long, longer]");
        Due.same("written first", Due.writtenOut(x), "[\"long\", \"longer\"]");
        x.wipe();
        Due.type(x, "7");
        x.load();
        Due.same("written before write() is called again", Due.written(x), "[\"long\", \"longer\"]");
        Due.same("written then", Due.writtenOut(x), "7");
        Due.same("written once more", Due.writtenOut(x), "7");
    }

    private static void wrongTextLeavesAll() {
        IndentedNotes x = Due.loaded("&a [*a, {k: 5}]");
        String before = Due.writtenOut(x);
        x.wipe();
        Due.type(x, "[x, y, {z: 1, w: [}]");
        Due.thrown("load()", IllegalArgumentException.class, x::load);
        Due.thrown("load() again", IllegalArgumentException.class, x::load);
        Due.same("kind(0)", x.kind(0), 4);
        Due.same("size(0)", x.size(0), 2);
        Due.same("item(0, 0)", x.item(0, 0), 0);
        Due.same("find(1, k)", x.find(1, 'k'), 3);
        Due.same("number(3)", x.number(3), 5);
        Due.same("kind(4)", x.kind(4), -1);
        Due.thrown("item(0, 2)", IndexOutOfBoundsException.class, () -> x.item(0, 2));
        Due.same("what was written", Due.written(x), before);
        Due.same("what is written", Due.writtenOut(x), before);
        Due.same("the text", x.wipe(), 20);

        IndentedNotes y = Due.typed("[");
        Due.thrown("load() of the first text", IllegalArgumentException.class, y::load);
        Due.thrown("write() with nothing loaded", IllegalStateException.class, y::write);
        Due.same("kind(0) with nothing loaded", y.kind(0), -1);
        Due.same("written(0)", y.written(0), -1);
        Due.same("typing goes on", y.type(']', 1), 2);
        Due.same("load()", y.load(), 1);
    }
}
