/** Promise 4: values in one line: brackets, quoted and plain texts, nodes had once more. */
public final class ValueTest {
    public static void main(String[] args) {
        rows();
        tables();
        quoted();
        plain();
        numbers();
        namings();
        Due.end();
    }

    private static void rows() {
        Due.loads("[]", "[]");
        Due.loads("[   ]  ", "[]");
        Due.loads("[a]", "[\"a\"]");
        Due.loads("[ a b  ,c,  [ ] , {} ]", "[\"a b\", \"c\", [], {}]");
        Due.loads("[a:b]", "[\"a:b\"]");
        Due.loads("[-, -1,-a]", "[\"-\", -1, \"-a\"]");
        Due.refuses("[");
        Due.refuses("]");
        Due.refuses("[a");
        Due.refuses("[a\n]");
        Due.refuses("[a,]");
        Due.refuses("[a, ]");
        Due.refuses("[,a]");
        Due.refuses("[,]");
        Due.refuses("[a,,b]");
        Due.refuses("[a]]");
        Due.refuses("[a}");
        Due.refuses("[a[b]]");
        Due.refuses("['a' b]");
        Due.refuses("[- a]");
        Due.refuses("[a: b]");
        Due.refuses("[a:]");
        Due.refuses("[a:,b]");
        Due.refuses("[#]");
    }

    private static void tables() {
        Due.loads("{}", "{}");
        Due.loads("{  }", "{}");
        Due.loads("{a: 1}", "{\"a\": 1}");
        Due.loads("{ a  :   1  ,'b': x y , \"c\": }", "{\"a\": 1, \"b\": \"x y\", \"c\": null}");
        Due.loads("{a:,b:  ,c:}", "{\"a\": null, \"b\": null, \"c\": null}");
        Due.loads("{a:b: c:d}", "{\"a:b\": \"c:d\"}");
        Due.loads("{a b: [1], 1: {true: ~}, '1': ''}", "{\"a b\": [1], 1: {true: null}, \"1\": \"\"}");
        Due.loads("{\"a, }\": 1}", "{\"a, }\": 1}");
        Due.refuses("{");
        Due.refuses("{a");
        Due.refuses("{a: 1");
        Due.refuses("{a:");
        Due.refuses("{a:1}");
        Due.refuses("{a:[1]}");
        Due.refuses("{a}");
        Due.refuses("{a, b: 1}");
        Due.refuses("{ a}");
        Due.refuses("{ a, b: 1}");
        Due.refuses("{a]: 1}");
        Due.refuses("{\"a\" : 1}");
        Due.refuses("{\"a\":1}");
        Due.refuses("{\"a\"}");
        Due.refuses("{a: 1,}");
        Due.refuses("{, a: 1}");
        Due.refuses("{a: 1]");
        Due.refuses("{a: b: c}");
        Due.refuses("{a: \"b\" c}");
        Due.refuses("{: 1}");
        Due.refuses("{- : 1}");
        Due.refuses("{[a]: 1}");
        Due.refuses("{&a b: 1}");
        Due.refuses("[&a b, {*a: 1}]");
    }

    private static void quoted() {
        Due.loads("''", "\"\"");
        Due.loads("\"\"", "\"\"");
        Due.loads("''''", "\"'\"");
        Due.loads("'a''b\\n\"'", "\"a'b\\\\n\\\"\"");
        Due.loads("\"a'\\\\\\\"\\n'\"", "\"a'\\\\\\\"\\n'\"");
        Due.loads("['null', \"1\", ' a ', '[,]']", "[\"null\", \"1\", \" a \", \"[,]\"]");
        Due.refuses("'");
        Due.refuses("\"");
        Due.refuses("'a");
        Due.refuses("'a''");
        Due.refuses("\"a\\\"");
        Due.refuses("\"\\x\"");
        Due.refuses("\"\\\n\"");
        Due.refuses("'a\nb'");
        Due.refuses("'a'b");
        Due.refuses("\"a\" \"b\"");
    }

    private static void plain() {
        for (char c = 33; c < 127; c++) {
            boolean begins = Character.isLetterOrDigit(c) || "_.+/~(<=$^-".indexOf(c) >= 0;
            String text = c + "z";
            if (begins) {
                Due.loads(text, "\"" + text + "\"");
                Due.loads("[" + text + "]", "[\"" + text + "\"]");
            } else if (c != '#') {
                Due.refuses(text);
                Due.refuses("[" + text + "]");
            }
        }
        Due.loads("[~, null, true, false]", "[null, null, true, false]");
        Due.loads("[~~, Null, True, nul, falsee]", "[\"~~\", \"Null\", \"True\", \"nul\", \"falsee\"]");
        Due.loads("a\"\\'b", "\"a\\\"\\\\'b\"");
        Due.loads("null  ", "null");
        Due.loads("- a:b ,c", "[\"a:b ,c\"]");
    }

    private static void numbers() {
        Due.loads("[0, -0, +0, 007, -12, +12]", "[0, 0, 0, 7, -12, 12]");
        Due.loads("[999999999999999999, -999999999999999999]", "[999999999999999999, -999999999999999999]");
        Due.loads("[1000000000000000000, -0000000000000000000]",
            "[\"1000000000000000000\", \"-0000000000000000000\"]");
        Due.loads("[0x0, 0x1f, 0xa9, 0xffffffffffffff, 0x00000000000010]", "[0, 31, 169, 72057594037927935, 16]");
        Due.loads("[0x, 0xg, 0x1F, 0X1, 0x000000000000010]",
            "[\"0x\", \"0xg\", \"0x1F\", \"0X1\", \"0x000000000000010\"]");
        Due.loads("[-0x1, +0x1, +, --1, +-1, 1.5, 1 2, 1e3, a1, 10x1]",
            "[\"-0x1\", \"+0x1\", \"+\", \"--1\", \"+-1\", \"1.5\", \"1 2\", \"1e3\", \"a1\", \"10x1\"]");
    }

    private static void namings() {
        Due.loads("[&a x, *a]", "[&a \"x\", *a]");
        Due.loads("[&a x]", "[\"x\"]");
        Due.loads("&z [&y {k: *z}, *y , *z]", "&a [&b {\"k\": *a}, *b, *a]");
        Due.loads("[&a 1, &a 2, *a]", "[1, &a 2, *a]");
        Due.loads("&a [&a [x], *a]", "[&a [\"x\"], *a]");
        Due.loads("[&a [&a x], *a]", "[[&a \"x\"], *a]");
        Due.loads("{k: &a ~, l: 1}", "{\"k\": null, \"l\": 1}");
        Due.refuses("[*a, &a x]");
        Due.refuses("[&a x, *b]");
        Due.refuses("&a *a");
        Due.refuses("[&b 1, &a *b]");
        Due.refuses("[&a &b x]");
        Due.refuses("[&a]");
        Due.refuses("[&a ]");
        Due.refuses("[&a , x]");
        Due.refuses("{k: &a }");
        Due.refuses("{k: &a}");
        Due.refuses("[&a[x]]");
        Due.refuses("[&ax]");
        Due.refuses("[&a x, *a *a]");
        Due.refuses("[&a x, *A]");
        Due.refuses("[&a x, *]");
        Due.refuses("[&a x, *1]");
    }
}
