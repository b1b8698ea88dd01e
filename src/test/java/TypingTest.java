/** Promises 1 to 3: a new object, type and wipe. */
public final class TypingTest {
    public static void main(String[] args) {
        newObject();
        order();
        refused();
        full();
        wiped();
        Due.end();
    }

    private static void newObject() {
        IndentedNotes x = new IndentedNotes();
        Due.same("kind(0)", x.kind(0), -1);
        Due.same("size(0)", x.size(0), -1);
        Due.same("letter(0, 0)", x.letter(0, 0), -1);
        Due.same("find(0, 97)", x.find(0, 97), -1);
        Due.same("written(0)", x.written(0), -1);
        Due.thrown("item(0, 0)", IndexOutOfBoundsException.class, () -> x.item(0, 0));
        Due.thrown("key(0, 0)", IndexOutOfBoundsException.class, () -> x.key(0, 0));
        Due.thrown("number(0)", IllegalArgumentException.class, () -> x.number(0));
        Due.thrown("write()", IllegalStateException.class, x::write);
        Due.same("wipe()", x.wipe(), 0);
        Due.same("load() of the empty text", x.load(), 1);
        Due.same("kind(0)", x.kind(0), 0);
    }

    private static void order() {
        IndentedNotes x = new IndentedNotes();
        Due.same("type of one", x.type('a', 1), 1);
        Due.same("type of three", x.type(0x626364L, 3), 4);
        Due.same("type of eight", x.type(0x65666768696a6b6cL, 8), 12);
        Due.same("type of the lowest two of eight", x.type(0xffffffffffff6d6eL, 2), 14);
        x.load();
        Due.same("what was typed", Due.writtenOut(x), "\"abcdefghijklmn\"");
    }

    private static void refused() {
        IndentedNotes x = Due.typed("ab");
        Due.same("n = 0", x.type('a', 0), -1);
        Due.same("n = -1", x.type('a', -1), -1);
        Due.same("n = 9", x.type(0x6161616161616161L, 9), -1);
        Due.same("a great n", x.type('a', Integer.MAX_VALUE), -1);
        Due.same("the least n", x.type('a', Integer.MIN_VALUE), -1);
        int[] bad = {0, 1, 9, 11, 13, 31, 127, 128, 138, 160, 255};
        for (int c : bad) {
            Due.same("character " + c, x.type(c, 1), -1);
            Due.same("character " + c + " in front", x.type((long) c << 8 | 'a', 2), -1);
            Due.same("character " + c + " behind", x.type((long) 'a' << 8 | c, 2), -1);
        }
        Due.same("a character 255 as the highest of eight", x.type(0xff61616161616161L, 8), -1);
        Due.same("a byte of 0 among those taken", x.type('a', 2), -1);
        x.load();
        Due.same("what was typed", Due.writtenOut(x), "\"ab\"");
        Due.same("wipe()", x.wipe(), 2);
        int[] good = {10, 32, 33, 125, 126};
        for (int i = 0; i < good.length; i++) {
            Due.same("character " + good[i], x.type(good[i], 1), i + 1);
        }
    }

    private static void full() {
        IndentedNotes x = Due.typed("a".repeat(195));
        Due.same("six more", x.type(0x616161616161L, 6), -1);
        Due.same("five more", x.type(0x6161616161L, 5), 200);
        Due.same("one more", x.type('a', 1), -1);
        Due.same("load()", x.load(), 1);
        Due.same("size(0)", x.size(0), 200);
        Due.same("letter(0, 199)", x.letter(0, 199), 'a');
        Due.same("wipe()", x.wipe(), 200);
        Due.same("eight more", x.type(0x6161616161616161L, 8), 8);
    }

    private static void wiped() {
        IndentedNotes x = Due.loaded("[1, 2]");
        x.write();
        Due.same("wipe()", x.wipe(), 6);
        Due.same("wipe() again", x.wipe(), 0);
        Due.same("kind(0) stays", x.kind(0), 4);
        Due.same("number(2) stays", x.number(2), 2);
        Due.same("what is written stays", Due.written(x), "[1, 2]");
        Due.same("what is loaded stays", Due.writtenOut(x), "[1, 2]");
        Due.same("typing begins anew", x.type('7', 1), 1);
        Due.same("load()", x.load(), 1);
        Due.same("number(0)", x.number(0), 7);
    }
}
