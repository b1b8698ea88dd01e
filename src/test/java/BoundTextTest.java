/** The boundary cases of texts and lines (Terms) and of promises 1 to 3: a test for each sentence. */
public final class BoundTextTest {
    private static final long AS = 0x6161616161616161L;

    public static void main(String[] args) {
        textHasAtMost200();
        charactersOfAText();
        linesBetweenLineEnds();
        columnsFrom0();
        depthInBlanks();
        restWithoutBlanksAtEnd();
        voidIfEmpty();
        voidIfNumberSign();
        nextLineIsNotVoid();
        newTextIsEmpty();
        newObjectHasNothingLoaded();
        typeTakesLowestBytes();
        typeTakesHighestFirst();
        typeTellsHowMany();
        typeNeeds1To8();
        typeRefusesCharacters();
        typeRefusesMoreThan200();
        wipeEmpties();
        wipeTellsHowMany();
        wipeLeavesLoaded();
        Due.end();
    }

    // "A TEXT has at most 200 characters"
    private static void textHasAtMost200() {
        Due.same("199 characters", Due.loaded("x".repeat(199)).size(0), 199);
        IndentedNotes x = Due.loaded("x".repeat(200));
        Due.same("200 characters", x.size(0), 200);
        Due.same("the 201st", x.type('x', 1), -1);
        Due.same("all of them", x.wipe(), 200);
    }

    // ".. characters, 10 (the LINE END) and 32 .. 126": every character that may be, as it comes out of a string
    private static void charactersOfAText() {
        for (int c = 32; c <= 126; c++) {
            IndentedNotes x = Due.loaded("- |-\n  a" + (char) c + "b");
            Due.same("size with character " + c, x.size(1), 3);
            Due.same("character " + c, x.letter(1, 1), c);
        }
        Due.same("a line end", Due.loaded("- |-\n  a\n  b").letter(1, 1), 10);
    }

    // "Its LINES are what stands between line ends."
    private static void linesBetweenLineEnds() {
        Due.loads("- a\n- b", "[\"a\", \"b\"]");
        Due.loads("- a\n- b\n", "[\"a\", \"b\"]");
        Due.loads("\n- a\n\n\n- b\n\n", "[\"a\", \"b\"]");
        Due.loads("- |-\n  a\n\n\n  b", "[\"a\\n\\n\\nb\"]");
        Due.loads("\n".repeat(200), "null");
        Due.loads("\n".repeat(199) + "-", "[null]");
        Due.loads("-" + "\n".repeat(199), "[null]");
    }

    // "COLUMNS are counted from 0."
    private static void columnsFrom0() {
        Due.loads("a:\n b", "{\"a\": \"b\"}");
        Due.refuses("a:\nb");
        Due.loads("- - a\n  - b", "[[\"a\", \"b\"]]");
        Due.refuses("- - a\n   - b");
    }

    // "A line's DEPTH is with how many blanks (32) it begins"
    private static void depthInBlanks() {
        Due.loads(" - a\n - b", "[\"a\", \"b\"]");
        Due.loads(" ".repeat(199) + "x", "\"x\"");
        Due.loads("-\n" + " ".repeat(197) + "x", "[\"x\"]");
        Due.refuses(" - a\n- b");
        Due.refuses("- a\n - b");
    }

    // "what follows, without blanks at its end, is its REST"
    private static void restWithoutBlanksAtEnd() {
        Due.loads("x ", "\"x\"");
        Due.loads("x" + " ".repeat(199), "\"x\"");
        Due.loads("-  \n- a  \n-   ", "[null, \"a\", null]");
        Due.loads("a:  \nb: 'c'  ", "{\"a\": null, \"b\": \"c\"}");
        Due.loads("- |  \n  a\n- |-  \n  b", "[\"a\\n\", \"b\"]");
        Due.loads("- &a  \n- *a  ", "[&a null, *a]");
    }

    // "A line is VOID if its rest is empty"
    private static void voidIfEmpty() {
        Due.loads("", "null");
        Due.loads(" ", "null");
        Due.loads(" ".repeat(200), "null");
        Due.loads(" \n\n   \n x\n  \n", "\"x\"");
        Due.loads("-\n   \n- a", "[null, \"a\"]");
    }

    // ".. or begins with #"
    private static void voidIfNumberSign() {
        Due.loads("#", "null");
        Due.loads("  #x", "null");
        Due.loads("#- a\n- b\n   # c\n# d: e\n- f", "[\"b\", \"f\"]");
        Due.loads("x#", "\"x#\"");
        Due.loads("x #y", "\"x #y\"");
        Due.refuses("- #");
        Due.refuses("a: #");
        Due.refuses("[#]");
    }

    // "THE NEXT LINE is the first one behind, that is not void."
    private static void nextLineIsNotVoid() {
        Due.loads("a:\n# b\n\n  # c\n  d\n\n#\ne: 1", "{\"a\": \"d\", \"e\": 1}");
        Due.loads("a:\n     # deep\nb: 1", "{\"a\": null, \"b\": 1}");
        Due.loads("- - a\n# low\n  - b", "[[\"a\", \"b\"]]");
        Due.loads("-\n#\n\n#\n", "[null]");
    }

    // Promise 1: "The text is empty"
    private static void newTextIsEmpty() {
        Due.same("wipe() of a new text", new IndentedNotes().wipe(), 0);
        Due.same("the first character", new IndentedNotes().type('x', 1), 1);
        Due.same("load() of a new text", new IndentedNotes().load(), 1);
    }

    // Promise 1: ".. nothing is loaded."
    private static void newObjectHasNothingLoaded() {
        IndentedNotes x = new IndentedNotes();
        for (int n = -1; n <= 60; n++) {
            int node = n;
            Due.same("kind", x.kind(n), -1);
            Due.same("size", x.size(n), -1);
            Due.same("letter", x.letter(n, 0), -1);
            Due.same("find", x.find(n, 'a'), -1);
            Due.thrown("item", IndexOutOfBoundsException.class, () -> x.item(node, 0));
            Due.thrown("key", IndexOutOfBoundsException.class, () -> x.key(node, 0));
            Due.thrown("number", IllegalArgumentException.class, () -> x.number(node));
        }
        Due.thrown("write", IllegalStateException.class, x::write);
        Due.same("written", x.written(0), -1);
    }

    // Promise 2: "Appends n characters to the text, the lowest n bytes of characters"
    private static void typeTakesLowestBytes() {
        for (int n = 1; n <= 8; n++) {
            long above = n == 8 ? 0 : -1L << (8 * n);
            long below = n == 8 ? -1L : (1L << (8 * n)) - 1;
            Due.same("1s above " + n, typedOnce(AS & below | above, n), "a".repeat(n));
            Due.same("0s above " + n, typedOnce(AS & below, n), "a".repeat(n));
        }
    }

    // Promise 2: ".. the highest of them first"
    private static void typeTakesHighestFirst() {
        for (int n = 1; n <= 8; n++) {
            Due.same("the order of " + n, typedOnce(0x6162636465666768L, n), "abcdefgh".substring(8 - n));
        }
    }

    private static String typedOnce(long characters, int n) {
        IndentedNotes x = new IndentedNotes();
        Due.same("type of " + n, x.type(characters, n), n);
        x.load();
        StringBuilder all = new StringBuilder();
        for (int i = 0; i < x.size(0); i++) {
            all.append((char) x.letter(0, i));
        }
        return all.toString();
    }

    // Promise 2: "how many it has"
    private static void typeTellsHowMany() {
        IndentedNotes x = new IndentedNotes();
        for (int i = 1; i <= 200; i++) {
            Due.same("character " + i, x.type('a', 1), i);
        }
    }

    // Promise 2: "NONE when n is not 1 .. 8"
    private static void typeNeeds1To8() {
        int[] wrong = {Integer.MIN_VALUE, -256, -8, -1, 0, 9, 10, 16, 64, 257, Integer.MAX_VALUE};
        IndentedNotes x = Due.typed("ab");
        for (int n : wrong) {
            Due.same("n = " + n, x.type(AS, n), -1);
        }
        Due.same("n = 1", x.type(AS, 1), 3);
        Due.same("n = 8", x.type(AS, 8), 11);
    }

    // Promise 2: "NONE when .. one is not 10 or 32 .. 126": every byte at every place
    private static void typeRefusesCharacters() {
        for (int n = 1; n <= 8; n++) {
            for (int place = 0; place < n; place++) {
                for (int c = 0; c < 256; c++) {
                    boolean may = c == 10 || c >= 32 && c <= 126;
                    long characters = AS & ~(0xffL << (8 * place)) | (long) c << (8 * place);
                    IndentedNotes x = new IndentedNotes();
                    Due.same("character " + c + " at " + place, x.type(characters, n), may ? n : -1);
                    Due.same("the text with character " + c + " at " + place, x.wipe(), may ? n : 0);
                }
            }
        }
    }

    // Promise 2: "NONE when .. it would have more than 200"
    private static void typeRefusesMoreThan200() {
        for (int had = 192; had <= 200; had++) {
            for (int n = 1; n <= 8; n++) {
                IndentedNotes x = Due.typed("b".repeat(had));
                boolean may = had + n <= 200;
                Due.same(n + " behind " + had, x.type(AS, n), may ? had + n : -1);
                Due.same("load()", x.load(), 1);
                Due.same("the text of " + had + " and " + n, x.size(0), may ? had + n : had);
                Due.same("the end of " + had + " and " + n, x.letter(0, x.size(0) - 1), may ? 'a' : 'b');
            }
        }
    }

    // Promise 3: "The text is empty from now on"
    private static void wipeEmpties() {
        IndentedNotes x = Due.typed("y".repeat(200));
        x.wipe();
        Due.same("load() of the empty text", x.load(), 1);
        Due.same("kind(0) of the empty text", x.kind(0), 0);
        Due.same("the first character", x.type('z', 1), 1);
        x.load();
        Due.same("the text", Due.writtenOut(x), "\"z\"");
    }

    // Promise 3: "how many characters it had"
    private static void wipeTellsHowMany() {
        IndentedNotes x = new IndentedNotes();
        Due.same("wipe() of none", x.wipe(), 0);
        x.type('\n', 1);
        Due.same("wipe() of one", x.wipe(), 1);
        Due.same("wipe() again", x.wipe(), 0);
        Due.type(x, "a".repeat(200));
        Due.same("wipe() of 200", x.wipe(), 200);
        Due.same("wipe() again", x.wipe(), 0);
    }

    // Promise 3: "(What is loaded stays.)"
    private static void wipeLeavesLoaded() {
        IndentedNotes x = Due.loaded("{a: [1, true], b: xy}");
        x.write();
        String before = Due.looks(x);
        x.wipe();
        Due.same("what is loaded behind wipe()", Due.looks(x), before);
        Due.type(x, "[other");
        Due.same("what is loaded behind type()", Due.looks(x), before);
        Due.same("what is written out behind them", Due.writtenOut(x), "{\"a\": [1, true], \"b\": \"xy\"}");
    }
}
