/** Promise 4: what is read in lines: rows, tables, parts, and the outermost node. */
public final class LinesTest {
    public static void main(String[] args) {
        outermost();
        rows();
        tables();
        parts();
        namings();
        Due.end();
    }

    private static void outermost() {
        Due.loads("", "null");
        Due.loads("\n\n", "null");
        Due.loads("\n".repeat(200), "null");
        Due.loads("\n".repeat(199) + "x", "\"x\"");
        Due.loads("   \n  # a\n#\n", "null");
        Due.loads("   x  ", "\"x\"");
        Due.loads("# c\n\n   x\n # d\n\n", "\"x\"");
        Due.loads("a # b", "\"a # b\"");
        Due.loads("  - a\n  - b", "[\"a\", \"b\"]");
        Due.refuses("a\nb");
        Due.refuses("  - a\n- b");
        Due.refuses("  a: 1\nb: 2");
        Due.refuses("[a]\n  b");
        Due.loads("&a x", "\"x\"");
        Due.loads("&a   [*a]", "&a [*a]");
        Due.refuses("&a\n- x");
        Due.refuses("&a");
        Due.refuses("&a - x");
        Due.refuses("&a x: 1");
        Due.refuses("|\n a");
        Due.refuses("&a |\n a");
    }

    private static void rows() {
        Due.loads("- a\n- b", "[\"a\", \"b\"]");
        Due.loads("-", "[null]");
        Due.loads("-   \n-\n", "[null, null]");
        Due.loads("- a\n\n    # deep\n- b", "[\"a\", \"b\"]");
        Due.loads("- - a\n  - b\n- c", "[[\"a\", \"b\"], \"c\"]");
        Due.loads("-   - a\n    - b", "[[\"a\", \"b\"]]");
        Due.loads("- - -", "[[[null]]]");
        Due.loads("-\n - a\n - b\n-\n    c", "[[\"a\", \"b\"], \"c\"]");
        Due.loads("- a: 1\n  b: 2\n- c", "[{\"a\": 1, \"b\": 2}, \"c\"]");
        Due.loads("-a", "\"-a\"");
        Due.loads("- -a", "[\"-a\"]");
        Due.refuses("- a\n - b");
        Due.refuses("- a\n  - b");
        Due.refuses("- a\nb: 1");
        Due.refuses("- a\nb");
        Due.refuses("- a\n-b");
        Due.refuses("- - a\n - b");
        Due.refuses("-\n  - a\n - b");
        Due.refuses("- #a");
    }

    private static void tables() {
        Due.loads("a: 1\nb: 2", "{\"a\": 1, \"b\": 2}");
        Due.loads("a:\nb:", "{\"a\": null, \"b\": null}");
        Due.loads("a b  :   c d  ", "{\"a b\": \"c d\"}");
        Due.loads("a:b: c", "{\"a:b\": \"c\"}");
        Due.loads("a: b:c", "{\"a\": \"b:c\"}");
        Due.loads("a [b], {c}: x, [y", "{\"a [b], {c}\": \"x, [y\"}");
        Due.loads("\"a: b\": 1\n'c''d': 2", "{\"a: b\": 1, \"c'd\": 2}");
        Due.loads("1: a\ntrue: b\n~: c\n-: d", "{1: \"a\", true: \"b\", null: \"c\", \"-\": \"d\"}");
        Due.loads("-a: 1", "{\"-a\": 1}");
        Due.loads("a:\n  b:\n    c: 1\n  d: 2\ne: 3", "{\"a\": {\"b\": {\"c\": 1}, \"d\": 2}, \"e\": 3}");
        Due.loads("a:\n - b\n - c\nd: 1", "{\"a\": [\"b\", \"c\"], \"d\": 1}");
        Due.loads("a:\n  x", "{\"a\": \"x\"}");
        Due.refuses("a: b: c");
        Due.refuses("a: b:");
        Due.refuses("a: - b");
        Due.refuses("a: -");
        Due.refuses("a:\n- b");
        Due.refuses("a: 1\n- b");
        Due.refuses("a: 1\n-b");
        Due.refuses("a: 1\nb");
        Due.refuses("a: 1\n b: 2");
        Due.refuses("a:\n  b\n  c");
        Due.refuses("\"a\" : 1");
        Due.refuses("\"a\":1");
        Due.refuses("\"a: 1");
        Due.refuses(": 1");
        Due.refuses("[a]: 1");
        Due.refuses("- &a x\n- *a: 1");
        Due.refuses("a: 1\n&b c: 2");
        Due.refuses("a: #b");
    }

    private static void parts() {
        Due.loads("- a:\n  b: 1", "[{\"a\": null, \"b\": 1}]");
        Due.loads("- a:\n   b: 1", "[{\"a\": {\"b\": 1}}]");
        Due.loads("a:\n\n# x\n  [1,\"2\"]\nb: {c: d}", "{\"a\": [1, \"2\"], \"b\": {\"c\": \"d\"}}");
        Due.loads("- \"a\"\n- 'b'\n- \"c\": 1", "[\"a\", \"b\", {\"c\": 1}]");
        Due.refuses("- [a] b");
        Due.refuses("- 'a' b");
        Due.refuses("- [a] #b");
        Due.refuses("a:\n  |\n   b");
    }

    private static void namings() {
        Due.loads("- &a\n- *a", "[&a null, *a]");
        Due.loads("- &a\n  - x\n- *a", "[&a [\"x\"], *a]");
        Due.loads("- &a x: *a\n     y: 1", "[&a {\"x\": *a, \"y\": 1}]");
        // The table's column is behind its naming.
        Due.refuses("- &a x: *a\n  y: 1");
        Due.loads("- &a - &b x\n     - *a\n- *b", "[&a [&b \"x\", *a], *b]");
        Due.loads("x: &a\n  y: *a\nz: &b\nw: *b", "{\"x\": &a {\"y\": *a}, \"z\": &b null, \"w\": *b}");
        Due.loads("x: &a   1\ny: *a", "{\"x\": &a 1, \"y\": *a}");
        Due.loads("- &a |\n  x\n- *a", "[&a \"x\\n\", *a]");
        Due.loads("x:\n  &a [*a]", "{\"x\": &a [*a]}");
        Due.refuses("- &a &b x");
        Due.refuses("- &a\n  &b x");
        Due.refuses("- &a\n  &b\n   x");
        Due.refuses("- &z 1\n- &a *z");
        Due.refuses("- &z 1\n- &a\n  *z");
        Due.refuses("- &ab x");
        Due.refuses("- &A x");
        Due.refuses("- & x");
        Due.refuses("- &");
        Due.refuses("- &1 x");
        Due.refuses("- *a");
        Due.refuses("- &a 1\n- *");
        Due.refuses("- &a 1\n- *ab");
        Due.refuses("- &a 1\n- *a b");
        Due.refuses("- &a 1\n- * a");
        Due.refuses("x: &a y: 1");
        Due.refuses("x:\n  &a y: 1");
        Due.refuses("x:\n  &a\n    y");
    }
}
