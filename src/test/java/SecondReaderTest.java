import java.util.Random;

/**
 * Texts by chance, always the same ones, most of them right or nearly right: the class must answer as a second
 * reader of the document does.
 */
public final class SecondReaderTest {
    private static final int TEXTS = 60000;
    private static final int LONGEST = 200;
    private static final String[] PLAIN = {
        "x", "y z", "1", "-2", "0x1f", "+3", "~", "null", "true", "false", "a:b", "-q", "(k)", "a'b", "c # d", ".",
        "0x"};
    private static final String[] QUOTED = {
        "'q'", "''", "'it''s'", "\"\\n\"", "\"a\\\\\"", "\"\\\"\"", "\"[: ]\"", "'- '"};
    private static final String MARKS = " \n-:,[]{}'\"\\&*|#a1~";
    private static int right = 0;
    private final Random random;
    private final StringBuilder text = new StringBuilder();

    private SecondReaderTest(Random random) {
        this.random = random;
    }

    public static void main(String[] args) {
        Random random = new Random(args.length > 0 ? Long.parseLong(args[0]) : 11);
        int texts = args.length > 1 ? Integer.parseInt(args[1]) : TEXTS;
        for (int i = 0; i < texts; i++) {
            compare(new SecondReaderTest(random).anyText());
        }
        if (right < texts / 5 || right > texts * 4 / 5) {
            Due.tell("of " + texts + " texts " + right + " are right: too few or too many to tell much");
        }
        Due.end();
    }

    private static void compare(String text) {
        SecondReader second = SecondReader.read(text);
        if (second == null) {
            Due.thrown("loading " + text, IllegalArgumentException.class, Due.typed(text)::load);
            return;
        }
        right++;
        IndentedNotes x = Due.typed(text);
        try {
            Due.same("loading " + text, x.load(), second.count());
        } catch (IllegalArgumentException e) {
            Due.tell("loading " + text + " threw " + e + ", the second reader has " + second.looks());
            return;
        }
        Due.same("looking at " + text, Due.looks(x), second.looks());
        // A second object, so that none is used for more calls than the document promises.
        Due.same("writing out " + text, Due.writtenOut(Due.loaded(text)), second.written());
    }

    private String anyText() {
        text.append(" ".repeat(random.nextInt(6) == 0 ? random.nextInt(4) : 0));
        if (chance(12)) {
            text.append("&a ");
        }
        block(1);
        int changes = chance(2) ? 0 : random.nextInt(3);
        for (int i = 0; i < changes; i++) {
            change();
        }
        if (text.length() > LONGEST) {
            text.setLength(LONGEST);
        }
        return text.toString();
    }

    private boolean chance(int of) {
        return random.nextInt(of) == 0;
    }

    private String oneOf(String[] words) {
        return words[random.nextInt(words.length)];
    }

    private int column() {
        return text.length() - text.lastIndexOf("\n") - 1;
    }

    private void block(int depth) {
        int column = column();
        int choice = random.nextInt(depth > 5 ? 9 : 3);
        if (choice > 1) {
            value(depth, false);
            return;
        }
        int parts = 1 + random.nextInt(3);
        for (int i = 0; i < parts; i++) {
            if (i > 0) {
                newLine(column);
            }
            text.append(choice == 0 ? "-" : key(i) + ":");
            part(column, depth + 1, choice == 0);
        }
    }

    private String key(int i) {
        if (chance(10)) {
            return chance(2) ? oneOf(QUOTED) : oneOf(PLAIN);
        }
        return (char) ('k' + i) + (chance(8) ? " " : "");
    }

    private void newLine(int column) {
        if (chance(10)) {
            text.append(chance(2) ? "\n  # no" : "\n ");
        }
        int slip = chance(40) ? 1 : 0;
        text.append('\n').append(" ".repeat(column + slip));
    }

    private void part(int column, int depth, boolean isItem) {
        if (chance(5)) {
            text.append(" &").append((char) ('a' + random.nextInt(3)));
        }
        switch (random.nextInt(6)) {
            case 0:
                text.append(chance(4) ? " " : "");
                break;
            case 1:
                newLine(column + 1 + random.nextInt(3));
                block(depth);
                break;
            case 2:
                text.append(chance(2) ? " |" : " |-");
                pieceLines(column + 1 + random.nextInt(2));
                break;
            default:
                text.append(" ".repeat(chance(5) ? 2 : 1));
                if (isItem) {
                    block(depth);
                } else {
                    value(depth, false);
                }
                break;
        }
    }

    private void pieceLines(int column) {
        int lines = random.nextInt(4);
        for (int i = 0; i < lines; i++) {
            int deep = chance(12) ? column - 1 : column + (chance(4) ? 1 : 0);
            text.append('\n').append(" ".repeat(chance(8) ? deep + 1 : deep));
            text.append(chance(5) ? "" : chance(5) ? "# p " : "p: ");
        }
    }

    private void value(int depth, boolean inside) {
        if (chance(8)) {
            text.append('&').append((char) ('a' + random.nextInt(3))).append(' ');
        } else if (chance(6)) {
            text.append('*').append((char) ('a' + random.nextInt(3)));
            return;
        }
        int choice = random.nextInt(depth > 6 ? 12 : 7);
        if (choice < 2) {
            bracket(depth, choice == 0);
        } else if (choice == 2) {
            text.append(oneOf(QUOTED));
        } else {
            text.append(oneOf(PLAIN)).append(!inside && chance(9) ? ", [z]" : "");
        }
    }

    private void bracket(int depth, boolean isRow) {
        text.append(isRow ? '[' : '{').append(chance(6) ? " " : "");
        int parts = random.nextInt(4);
        for (int i = 0; i < parts; i++) {
            text.append(i > 0 ? chance(4) ? "," : ", " : "");
            if (!isRow) {
                text.append(key(i)).append(':');
            }
            if (isRow || !chance(6)) {
                text.append(isRow ? "" : " ");
                value(depth + 1, true);
            }
            text.append(chance(8) ? " " : "");
        }
        text.append(isRow ? ']' : '}');
    }

    private void change() {
        int at = random.nextInt(text.length() + 1);
        char mark = MARKS.charAt(random.nextInt(MARKS.length()));
        if (at == text.length() || chance(3)) {
            text.insert(at, mark);
        } else if (chance(2)) {
            text.deleteCharAt(at);
        } else {
            text.setCharAt(at, mark);
        }
    }
}
