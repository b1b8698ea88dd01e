/** Promises 5 to 11: kind, size, item, key, number, letter and find. */
public final class LookTest {
    private static final int[] NO_NODES = {-1, -2, 60, 61, 1000, Integer.MIN_VALUE, Integer.MAX_VALUE};

    public static void main(String[] args) {
        kinds();
        order();
        items();
        keys();
        numbers();
        letters();
        finds();
        noNodes();
        Due.end();
    }

    private static void kinds() {
        IndentedNotes x = Due.loaded("[~, false, -5, ab c, [1, 2], {k: v}, '', [], {}]");
        int[] kinds = {4, 0, 1, 2, 3, 4, 2, 2, 5, 3, 3, 3, 4, 5};
        int[] sizes = {9, 0, 0, 0, 4, 2, 0, 0, 1, 1, 1, 0, 0, 0};
        for (int n = 0; n < kinds.length; n++) {
            Due.same("kind(" + n + ")", x.kind(n), kinds[n]);
            Due.same("size(" + n + ")", x.size(n), sizes[n]);
        }
        Due.same("kind behind the last", x.kind(kinds.length), -1);
        Due.same("size behind the last", x.size(kinds.length), -1);
        x.wipe();
        x.load();
        Due.same("kind(0) of nothing", x.kind(0), 0);
        Due.same("kind(1) of what was there before", x.kind(1), -1);
    }

    private static void order() {
        IndentedNotes x = Due.loaded("a:\n  - b: 1\n    c:\n  -\nd: {e: , f: &g [x]}\nh: *g");
        int[] kinds = {5, 3, 4, 5, 3, 2, 3, 0, 0, 3, 5, 3, 0, 3, 4, 3, 3};
        for (int n = 0; n < kinds.length; n++) {
            Due.same("kind(" + n + ") in order", x.kind(n), kinds[n]);
        }
        Due.same("kind behind the last", x.kind(kinds.length), -1);
        Due.same("the value of h", x.find(0, 'h'), 14);
        Due.same("the value of d", x.find(0, 'd'), 10);
    }

    private static void items() {
        IndentedNotes x = Due.loaded("&a [1, [2, 3], *a, {k: *a, l: 4}]");
        int[] outer = {1, 2, 0, 5};
        for (int i = 0; i < outer.length; i++) {
            Due.same("item(0, " + i + ")", x.item(0, i), outer[i]);
        }
        Due.same("item(2, 0)", x.item(2, 0), 3);
        Due.same("item(2, 1)", x.item(2, 1), 4);
        Due.same("item(5, 0)", x.item(5, 0), 0);
        Due.same("item(5, 1)", x.item(5, 1), 8);
        int[] none = {4, -1, 5, 100, Integer.MIN_VALUE, Integer.MAX_VALUE};
        for (int i : none) {
            Due.thrown("item(0, " + i + ")", IndexOutOfBoundsException.class, () -> x.item(0, i));
        }
        Due.thrown("item(2, 2)", IndexOutOfBoundsException.class, () -> x.item(2, 2));
        Due.thrown("item of a number", IndexOutOfBoundsException.class, () -> x.item(1, 0));
        Due.thrown("item of a string", IndexOutOfBoundsException.class, () -> x.item(6, 0));
        Due.thrown("item of no node", IndexOutOfBoundsException.class, () -> x.item(9, 0));
    }

    private static void keys() {
        IndentedNotes x = Due.loaded("{a: 1, 2: {~: b}, 'c': [d]}");
        Due.same("key(0, 0)", x.key(0, 0), 1);
        Due.same("key(0, 1)", x.key(0, 1), 3);
        Due.same("key(0, 2)", x.key(0, 2), 7);
        Due.same("key(4, 0)", x.key(4, 0), 5);
        int[] none = {3, -1, 4, Integer.MIN_VALUE, Integer.MAX_VALUE};
        for (int i : none) {
            Due.thrown("key(0, " + i + ")", IndexOutOfBoundsException.class, () -> x.key(0, i));
        }
        Due.thrown("key of a row", IndexOutOfBoundsException.class, () -> x.key(8, 0));
        Due.thrown("key of a string", IndexOutOfBoundsException.class, () -> x.key(1, 0));
        Due.thrown("key of no node", IndexOutOfBoundsException.class, () -> x.key(10, 0));
    }

    private static void numbers() {
        IndentedNotes x = Due.loaded("[true, false, -999999999999999999, 0xffffffffffffff, +5, '5', ~, {}]");
        long[] due = {1, 0, -999999999999999999L, 0xffffffffffffffL, 5};
        for (int i = 0; i < due.length; i++) {
            Due.same("number(" + (i + 1) + ")", x.number(i + 1), due[i]);
        }
        int[] none = {0, 6, 7, 8, 9};
        for (int n : none) {
            Due.thrown("number(" + n + ")", IllegalArgumentException.class, () -> x.number(n));
        }
    }

    private static void letters() {
        IndentedNotes x = Due.loaded("- xy\n- \"\\n\\\"\"\n- 12\n- ''\n- zw");
        Due.same("letter(1, 0)", x.letter(1, 0), 'x');
        Due.same("letter(1, 1)", x.letter(1, 1), 'y');
        Due.same("letter(1, 2)", x.letter(1, 2), -1);
        Due.same("letter(1, -1)", x.letter(1, -1), -1);
        Due.same("letter(1, least)", x.letter(1, Integer.MIN_VALUE), -1);
        Due.same("letter(1, greatest)", x.letter(1, Integer.MAX_VALUE), -1);
        Due.same("letter(2, 0)", x.letter(2, 0), '\n');
        Due.same("letter(2, 1)", x.letter(2, 1), '"');
        Due.same("letter(2, 2)", x.letter(2, 2), -1);
        Due.same("letter of a number", x.letter(3, 0), -1);
        Due.same("letter of an empty string", x.letter(4, 0), -1);
        Due.same("letter(5, -1)", x.letter(5, -1), -1);
        Due.same("letter(5, 1)", x.letter(5, 1), 'w');
        Due.same("letter of a row", x.letter(0, 0), -1);
    }

    private static void finds() {
        IndentedNotes x = Due.loaded("a: 1\nbc: 2\n3: 4\n'5': &z 6\n~: 7\n'': 8\n\"\\n\": 9\nd: {e: *z}");
        Due.same("find a", x.find(0, 'a'), 2);
        Due.same("find b", x.find(0, 'b'), -1);
        Due.same("find 3, which is a number", x.find(0, '3'), -1);
        Due.same("find 3 itself", x.find(0, 3), -1);
        Due.same("find 5", x.find(0, '5'), 8);
        Due.same("find ~", x.find(0, '~'), -1);
        Due.same("find a line end", x.find(0, '\n'), 14);
        Due.same("find e, which is deeper", x.find(0, 'e'), -1);
        Due.same("find e in its table", x.find(16, 'e'), 8);
        Due.same("find NONE", x.find(0, -1), -1);
        Due.same("find 0", x.find(0, 0), -1);
        Due.same("find what has the same lowest byte", x.find(0, 'a' + 256), -1);
        Due.same("find what has the same lowest two bytes", x.find(0, 'a' + 65536), -1);
        Due.same("find in a string", x.find(1, 'a'), -1);
        Due.same("find in no node", x.find(18, 'a'), -1);
        Due.same("find in a row", Due.loaded("[a]").find(0, 'a'), -1);
    }

    private static void noNodes() {
        IndentedNotes x = Due.loaded("{a: [b]}");
        for (int n : NO_NODES) {
            Due.same("kind(" + n + ")", x.kind(n), -1);
            Due.same("size(" + n + ")", x.size(n), -1);
            Due.same("letter(" + n + ", 0)", x.letter(n, 0), -1);
            Due.same("find(" + n + ", 97)", x.find(n, 'a'), -1);
            Due.thrown("item(" + n + ", 0)", IndexOutOfBoundsException.class, () -> x.item(n, 0));
            Due.thrown("key(" + n + ", 0)", IndexOutOfBoundsException.class, () -> x.key(n, 0));
            Due.thrown("number(" + n + ")", IllegalArgumentException.class, () -> x.number(n));
        }
    }
}
