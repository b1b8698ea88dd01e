/** The boundary cases of values (Terms: VALUE, QUOTED, PLAIN): a test for each sentence. */
public final class BoundValueTest {
    private static final String BEGINNINGS = "_.+/~(<=$^";

    public static void main(String[] args) {
        namings();
        brackets();
        quoted();
        plain();
        kinds();
        Due.end();
    }

    private static void namings() {
        namingNeedsBlank();
        repeatNeedsLetter();
        repeatTakesLatest();
        repeatNeedsNaming();
        repeatHasNoNaming();
        namesFromThenOn();
        namesInsideItself();
        twoNamingsAreWrong();
    }

    private static void brackets() {
        rowInBrackets();
        commasSeparateValues();
        tableInBrackets();
        commasSeparateEntries();
        valueNeedsBlank();
        missingValueIsNothing();
        blanksInBrackets();
        nothingBetween();
        plainKeyInBrackets();
        lineEndEndsAll();
    }

    private static void quoted() {
        singleQuotes();
        doubleQuotes();
        backslashes();
        quotedIsString();
    }

    private static void plain() {
        plainBeginnings();
        plainDash();
        plainGoesToLineEnd();
        plainInBracketsStops();
        plainWithoutBlanks();
        plainHasNoColon();
        plainInBracketsHasNoColon();
    }

    private static void kinds() {
        nothings();
        truths();
        signs();
        digits();
        hexDigits();
        otherwiseString();
    }

    // "perhaps a naming with a blank or more behind it"
    private static void namingNeedsBlank() {
        Due.loads("&a x", "\"x\"");
        Due.loads("[&a x, &b    y, *b, *a]", "[&a \"x\", &b \"y\", *b, *a]");
        Due.refuses("&a");
        Due.refuses("&ax");
        Due.refuses("[&a]");
        Due.refuses("[&a ]");
        Due.refuses("[&a, x]");
        Due.refuses("[&a[x]]");
        Due.refuses("[&a'x']");
        Due.refuses("[& x]");
        Due.refuses("{k: &a}");
        Due.refuses("{k: &a }");
        Due.refuses("{k: &a , l: 1}");
        for (char c = 33; c <= 126; c++) {
            if (c < 'a' || c > 'z') {
                Due.refuses("[&" + c + " x]");
            }
        }
    }

    // "* and a letter"
    private static void repeatNeedsLetter() {
        Due.loads("[&a x, *a,*a , *a ]", "[&a \"x\", *a, *a, *a]");
        Due.loads("[&z x, *z]", "[&a \"x\", *a]");
        Due.loads("{k: &m x, l: *m}", "{\"k\": &a \"x\", \"l\": *a}");
        Due.refuses("[&a x, *]");
        Due.refuses("[&a x, * a]");
        Due.refuses("[&a x, *A]");
        Due.refuses("[&a x, *`]");
        Due.refuses("[&z x, *{]");
        Due.refuses("[&a x, *1]");
        Due.refuses("[&a x, *aa]");
        Due.refuses("[&a x, **a]");
    }

    // "(the node that the latest naming with this letter before names"
    private static void repeatTakesLatest() {
        Due.loads("[&a 1, &a 2, *a]", "[1, &a 2, *a]");
        Due.loads("[&a 1, *a, &a 2, *a]", "[&a 1, *a, &b 2, *b]");
        Due.loads("[&a 1, [&a 2], *a]", "[1, [&a 2], *a]");
        Due.loads("- &a 1\n- k: &a 2\n- *a", "[1, {\"k\": &a 2}, *a]");
    }

    // ".. WRONG if there is none"
    private static void repeatNeedsNaming() {
        Due.refuses("*a");
        Due.refuses("[*a]");
        Due.refuses("[*a, &a x]");
        Due.refuses("[&a x, *b]");
        Due.refuses("[&b x, *a]");
        Due.refuses("k: *a\nl: &a 1");
        // What an earlier text has named is not known any more.
        IndentedNotes x = Due.loaded("[&a x]");
        x.wipe();
        Due.type(x, "[*a]");
        Due.thrown("a naming of an earlier text", IllegalArgumentException.class, x::load);
    }

    // ".. no naming may be in front)"
    private static void repeatHasNoNaming() {
        Due.refuses("&a *a");
        Due.refuses("[&a x, &b *a]");
        Due.refuses("[&a x, &a *a]");
        Due.refuses("- &a x\n- &b *a");
        Due.refuses("- &a x\n- &b\n  *a");
        Due.refuses("k: &a x\nl: &b *a");
        Due.refuses("{k: &a x, l: &b *a}");
    }

    // "A naming names the node that begins behind it, from then on"
    private static void namesFromThenOn() {
        Due.loads("[&a [x], [*a]]", "[&a [\"x\"], [*a]]");
        Due.loads("- - - &a x\n- *a", "[[[&a \"x\"]], *a]");
        Due.loads("- &a\n- *a", "[&a null, *a]");
        Due.loads("- &a k: v\n- *a", "[&a {\"k\": \"v\"}, *a]");
        Due.loads("- &a |-\n  p\n- *a", "[&a \"p\", *a]");
    }

    // "(inside this node, too)"
    private static void namesInsideItself() {
        Due.loads("&a [*a]", "&a [*a]");
        Due.loads("&a {k: *a}", "&a {\"k\": *a}");
        Due.loads("[&a 1, &a [*a]]", "[1, &a [*a]]");
        Due.loads("- &a\n  - *a", "[&a [*a]]");
        Due.loads("- &a k: *a", "[&a {\"k\": *a}]");
        Due.loads("&a [&a [x], *a]", "[&a [\"x\"], *a]");
    }

    // "two namings one behind the other are WRONG"
    private static void twoNamingsAreWrong() {
        Due.refuses("&a &b x");
        Due.refuses("&a &a x");
        Due.refuses("[&a &b x]");
        Due.refuses("{k: &a &b x}");
        Due.refuses("- &a &b x");
        Due.refuses("- &a &b");
        Due.refuses("- &a &b |");
        Due.refuses("- &a\n  &b x");
        Due.refuses("k: &a &b x");
        Due.refuses("k: &a\n  &b x");
        Due.loads("- &a - &b x\n     - [*a, *b]", "[&a [&b \"x\", [*a, *b]]]");
    }

    // "[ and ], with values between"
    private static void rowInBrackets() {
        Due.loads("[a]", "[\"a\"]");
        Due.loads("[[a], {b: c}, 'd', \"e\", 1, ~]", "[[\"a\"], {\"b\": \"c\"}, \"d\", \"e\", 1, null]");
        Due.refuses("[");
        Due.refuses("]");
        Due.refuses("[a");
        Due.refuses("[[a]");
        Due.refuses("[a]]");
        Due.refuses("[a}");
        Due.refuses("[a: 1]");
        Due.refuses("['a': 1]");
        Due.refuses("[?]");
        Due.refuses("[|]");
    }

    // ".. separated by commas"
    private static void commasSeparateValues() {
        Due.loads("[a,b]", "[\"a\", \"b\"]");
        Due.refuses("[a,]");
        Due.refuses("[a, ]");
        Due.refuses("[,]");
        Due.refuses("[ , ]");
        Due.refuses("[,a]");
        Due.refuses("[a,,b]");
        Due.refuses("['a' 'b']");
        Due.refuses("[[a] [b]]");
        Due.refuses("[[a]b]");
        Due.refuses("[a[b]]");
        Due.refuses("[a{b: c}]");
    }

    // "{ and }, with entries between .. each a key and a colon"
    private static void tableInBrackets() {
        Due.loads("{a: 1}", "{\"a\": 1}");
        Due.loads("{'a: }': 1, \"b\": 2, ~: 3, 4: 5}", "{\"a: }\": 1, \"b\": 2, null: 3, 4: 5}");
        Due.refuses("{");
        Due.refuses("}");
        Due.refuses("{a: 1");
        Due.refuses("{a: 1]");
        Due.refuses("{a: 1}}");
        Due.refuses("{a}");
        Due.refuses("{'a'}");
        Due.refuses("{'a' : 1}");
        Due.refuses("{'a'b: 1}");
        Due.refuses("{'a: 1}");
        Due.refuses("{: 1}");
        Due.refuses("{:}");
        Due.refuses("{?: 1}");
    }

    // ".. separated by commas"
    private static void commasSeparateEntries() {
        Due.loads("{a: 1,b: 2}", "{\"a\": 1, \"b\": 2}");
        Due.refuses("{a: 1,}");
        Due.refuses("{a: 1, }");
        Due.refuses("{,}");
        Due.refuses("{, a: 1}");
        Due.refuses("{a: 1,, b: 2}");
        Due.refuses("{a: '1' b: 2}");
        Due.refuses("{a: [1] b: 2}");
        Due.refuses("{a: 1, b}");
    }

    // "and then a blank or more and a value"
    private static void valueNeedsBlank() {
        Due.loads("{a: b}", "{\"a\": \"b\"}");
        Due.loads("{a:    b, 'c':  [d]}", "{\"a\": \"b\", \"c\": [\"d\"]}");
        Due.refuses("{a:b}");
        Due.refuses("{a:1}");
        Due.refuses("{'a':1}");
        Due.refuses("{a:'b'}");
        Due.refuses("{a:[b]}");
        Due.refuses("{a:{}}");
        Due.refuses("{'a':[b]}");
        Due.refuses("{a: ?}");
        Due.refuses("{a: ]}");
    }

    // ".. or, if a comma or } follows behind blanks, NOTHING"
    private static void missingValueIsNothing() {
        Due.loads("{a:}", "{\"a\": null}");
        Due.loads("{a: }", "{\"a\": null}");
        Due.loads("{a:   }", "{\"a\": null}");
        Due.loads("{a:,b: ,c:    , 'd':, 'e': }",
            "{\"a\": null, \"b\": null, \"c\": null, \"d\": null, \"e\": null}");
        Due.refuses("{a:");
        Due.refuses("{a: ");
        Due.refuses("{a:]");
        Due.refuses("[{a: ]");
    }

    // "Blanks may stand behind [ { and commas, and in front of ] } and commas."
    private static void blanksInBrackets() {
        Due.loads("[   a   ,   'b'   ,   [ c ]   ]", "[\"a\", \"b\", [\"c\"]]");
        Due.loads("{   a: 1   ,   'b': '2'   ,   c: { d: 3 }   }",
            "{\"a\": 1, \"b\": \"2\", \"c\": {\"d\": 3}}");
        Due.loads("[a,b,[c],{d: e}]", "[\"a\", \"b\", [\"c\"], {\"d\": \"e\"}]");
        Due.loads("[&a x , *a , *a ]", "[&a \"x\", *a, *a]");
    }

    // "[] and {} have nothing between."
    private static void nothingBetween() {
        Due.kinds("[]", 4);
        Due.kinds("[   ]", 4);
        Due.kinds("{}", 5);
        Due.kinds("{   }", 5);
        Due.loads("[[], {}, [ ], { }]", "[[], {}, [], {}]");
        Due.refuses("[}");
        Due.refuses("{]");
    }

    // "(Inside brackets a plain key goes up to such a colon, too, and may not have one of , [ ] { } in it."
    private static void plainKeyInBrackets() {
        Due.loads("{a:b: c}", "{\"a:b\": \"c\"}");
        Due.loads("{a b  : c}", "{\"a b\": \"c\"}");
        Due.loads("{a::}", "{\"a:\": null}");
        Due.loads("{a: b:c}", "{\"a\": \"b:c\"}");
        String marks = ",[]{}";
        for (int i = 0; i < marks.length(); i++) {
            char mark = marks.charAt(i);
            Due.refuses("{a" + mark + "b: 1}");
            Due.refuses("{a" + mark + ": 1}");
            Due.loads("{'a" + mark + "b': 1}", "{\"a" + mark + "b\": 1}");
        }
        Due.loads("a,b: 1", "{\"a,b\": 1}");
    }

    // "A line end ends everything that is not in lines.)"
    private static void lineEndEndsAll() {
        Due.refuses("[a\n]");
        Due.refuses("[\na]");
        Due.refuses("[a,\n b]");
        Due.refuses("{a: 1,\n b: 2}");
        Due.refuses("{a:\n 1}");
        Due.refuses("'a\nb'");
        Due.refuses("\"a\nb\"");
        Due.refuses("\"a\\\n\"");
        Due.refuses("- a\n  b");
        Due.refuses("'a'\n: 1");
        Due.refuses("[&a\n x]");
    }

    // "QUOTED: ' and ', in which '' stands for one '"
    private static void singleQuotes() {
        Due.loads("''", "\"\"");
        Due.loads("''''", "\"'\"");
        Due.loads("''''''", "\"''\"");
        Due.loads("'a''b'", "\"a'b\"");
        Due.loads("'a''bcd''''ef'", "\"a'bcd''ef\"");
        Due.loads("'a\\n\"'", "\"a\\\\n\\\"\"");
        Due.refuses("'");
        Due.refuses("'''");
        Due.refuses("'''''");
        Due.refuses("'a");
        Due.refuses("'a''");
        Due.refuses("'a'b'");
    }

    // "or " and ""
    private static void doubleQuotes() {
        Due.loads("\"\"", "\"\"");
        Due.loads("\"'\"", "\"'\"");
        Due.loads("\"a''b\"", "\"a''b\"");
        Due.refuses("\"");
        Due.refuses("\"a");
        Due.refuses("\"a'");
        Due.refuses("\"\"\"");
        Due.refuses("\"a\"\"b\"");
    }

    // "in which a \ stands before another \, before ", or before n (a line end)"
    private static void backslashes() {
        IndentedNotes x = Due.loaded("\"\\\\\\\"\\n\"");
        Due.same("how many", x.size(0), 3);
        Due.same("\\\\", x.letter(0, 0), '\\');
        Due.same("\\\"", x.letter(0, 1), '"');
        Due.same("\\n", x.letter(0, 2), '\n');
        Due.loads("\"a\\nbcd\\\\efg\\\"\"", "\"a\\nbcd\\\\efg\\\"\"");
        Due.loads("\"n\"", "\"n\"");
        Due.loads("\"\\\\n\"", "\"\\\\n\"");
        for (char c = 32; c <= 126; c++) {
            if (c != '\\' && c != '"' && c != 'n') {
                Due.refuses("\"\\" + c + "\"");
            }
        }
        Due.refuses("\"\\\"");
        Due.refuses("\"\\\\\\\"");
        Due.refuses("\"\\");
    }

    // "A quoted one is a string."
    private static void quotedIsString() {
        String[] words = {"~", "null", "true", "false", "1", "-1", "0x1", "*a", "|", "[]", "{}", "#", " "};
        for (String word : words) {
            Due.kinds("'" + word + "'", 3);
            Due.loads("[\"" + word + "\"]", "[\"" + word + "\"]");
        }
    }

    // "A PLAIN text begins with a letter, a digit, or one of _ . + / ~ ( < = $ ^"
    private static void plainBeginnings() {
        for (char c = 33; c <= 126; c++) {
            String text = c + ";";
            if (Character.isLetterOrDigit(c) || c == '-' || BEGINNINGS.indexOf(c) >= 0) {
                Due.loads(text, "\"" + text + "\"");
                Due.loads("a: " + text, "{\"a\": \"" + text + "\"}");
                Due.loads("[" + text + "]", "[\"" + text + "\"]");
            } else if (c != '#') {
                Due.refuses(text);
                Due.refuses("a: " + text);
                Due.refuses("[" + text + "]");
            }
        }
        for (int i = 0; i < BEGINNINGS.length(); i++) {
            String one = BEGINNINGS.substring(i, i + 1);
            Due.loads(one, one.equals("~") ? "null" : "\"" + one + "\"");
        }
    }

    // ".. or a dash with something behind it that is not a blank"
    private static void plainDash() {
        Due.loads("-a", "\"-a\"");
        Due.loads("--", "\"--\"");
        Due.loads("a: -?", "{\"a\": \"-?\"}");
        Due.loads("[-a, -1]", "[\"-a\", -1]");
        Due.loads("[-]", "[\"-\"]");
        Due.refuses("a: -");
        Due.refuses("a: - b");
        Due.refuses("[- a]");
        Due.refuses("[- ]");
        Due.refuses("{- : 1}");
        Due.refuses("[-");
    }

    // "it goes on to the end of the line"
    private static void plainGoesToLineEnd() {
        Due.loads("a, [b] {c} 'd' \"e\" # &f *g |", "\"a, [b] {c} 'd' \\\"e\\\" # &f *g |\"");
        Due.loads("- a, b\n- c]", "[\"a, b\", \"c]\"]");
        Due.loads("a: b, c", "{\"a\": \"b, c\"}");
    }

    // "(inside brackets: up to the first of , [ ] { } )"
    private static void plainInBracketsStops() {
        Due.loads("[a,b]", "[\"a\", \"b\"]");
        Due.loads("[[a],b]", "[[\"a\"], \"b\"]");
        Due.loads("{a: b,c: d}", "{\"a\": \"b\", \"c\": \"d\"}");
        Due.loads("[a 'b' \"c\" # &d *e |]", "[\"a 'b' \\\"c\\\" # &d *e |\"]");
        Due.refuses("[a[]]");
        Due.refuses("[a{}]");
        Due.refuses("[a}]");
        Due.refuses("{a: b]}");
        Due.refuses("{a: b{}}");
    }

    // ".. without blanks at its end"
    private static void plainWithoutBlanks() {
        Due.loads("a b  ", "\"a b\"");
        Due.loads("[a b  ,  c  ]", "[\"a b\", \"c\"]");
        Due.loads("{a: b  }", "{\"a\": \"b\"}");
        Due.loads("[1 , true , ~ ]", "[1, true, null]");
    }

    // "and has no colon with a blank or nothing .. behind it"
    private static void plainHasNoColon() {
        Due.loads("a:b", "\"a:b\"");
        Due.loads("a: b:c", "{\"a\": \"b:c\"}");
        Due.loads("a: b:,c:]", "{\"a\": \"b:,c:]\"}");
        Due.refuses("a: b: c");
        Due.refuses("a: b:");
        Due.refuses("&x a: b");
        Due.refuses("&x a:");
    }

    // "(inside brackets: or one of , [ ] { }) behind it"
    private static void plainInBracketsHasNoColon() {
        Due.loads("[a:b]", "[\"a:b\"]");
        Due.loads("[a:b:c,d:'e]", "[\"a:b:c\", \"d:'e\"]");
        Due.refuses("[a: b]");
        Due.refuses("[a:");
        Due.refuses("[a:]");
        Due.refuses("[a:,b]");
        Due.refuses("[a:[b]]");
        Due.refuses("[a:{}]");
        Due.refuses("{k: a:}");
        Due.refuses("{k: a: b}");
        Due.refuses("{k: a:, l: b}");
    }

    // "A plain text is NOTHING if it is ~ or null"
    private static void nothings() {
        Due.kinds("~", 0);
        Due.kinds("null", 0);
        Due.kinds("[~, null]", 4, 0, 0);
        Due.kinds("[~~, ~a, nul, nulll, Null, NULL, null null]", 4, 3, 3, 3, 3, 3, 3, 3);
    }

    // "a TRUTH if it is true or false"
    private static void truths() {
        Due.kinds("true", 1);
        Due.kinds("false", 1);
        Due.kinds("[tru, truee, True, TRUE, fals, falsee, False, yes, true false]", 4, 3, 3, 3, 3, 3, 3, 3, 3, 3);
    }

    // "a NUMBER if it is a sign + or - or none .."
    private static void signs() {
        Due.loads("[+1, -1, 1, +0, -0, 0]", "[1, -1, 1, 0, 0, 0]");
        Due.kinds("[+, -, ++1, --1, +-1, -+1, 1+, 1-, + 1]", 4, 3, 3, 3, 3, 3, 3, 3, 3, 3);
    }

    // ".. and 1 .. 18 digits"
    private static void digits() {
        String nines = "9".repeat(18);
        Due.loads("[0, 9, 00, 007]", "[0, 9, 0, 7]");
        Due.loads("[" + nines + ", +" + nines + ", -" + nines + "]", "[" + nines + ", " + nines + ", -" + nines + "]");
        Due.loads("[" + "0".repeat(17) + "1, -" + "0".repeat(18) + "]", "[1, 0]");
        Due.kinds(nines + "9", 3);
        Due.kinds("-" + nines + "9", 3);
        Due.kinds("+" + "0".repeat(19), 3);
        Due.kinds("9223372036854775808", 3);
        Due.kinds("1 0", 3);
        for (char c = 33; c <= 126; c++) {
            Due.kinds("1" + c + "1", c >= '0' && c <= '9' ? 2 : 3);
        }
        Due.same("the greatest of 18 digits", Due.loaded(nines).number(0), 999999999999999999L);
        Due.same("the least of 18 digits", Due.loaded("-" + nines).number(0), -999999999999999999L);
    }

    // ".. or 0x and 1 .. 14 of 0 .. 9 and a .. f"
    private static void hexDigits() {
        Due.loads("[0x0, 0x9, 0xa, 0xf, 0x10, 0x0000000000000f]", "[0, 9, 10, 15, 16, 15]");
        Due.same("the greatest of 14", Due.loaded("0xffffffffffffff").number(0), 0xffffffffffffffL);
        Due.kinds("[0x, 0xg, 0xA, 0xF, 0X1, 0x 1, x1, 1x1, 00x1, 0x1g]", 4, 3, 3, 3, 3, 3, 3, 3, 3, 3, 3);
        for (char c = 33; c <= 126; c++) {
            boolean isDigit = c >= '0' && c <= '9' || c >= 'a' && c <= 'f';
            Due.kinds("0x1" + c + "1", isDigit ? 2 : 3);
        }
        Due.kinds("0x000000000000000", 3);
        Due.kinds("0xfffffffffffffff", 3);
        Due.kinds("-0x1", 3);
        Due.kinds("+0x1", 3);
    }

    // ".. otherwise a STRING."
    private static void otherwiseString() {
        Due.kinds("x", 3);
        Due.kinds("[a b, .5, 1.5, (, <=, $, ^]", 4, 3, 3, 3, 3, 3, 3, 3);
    }
}
