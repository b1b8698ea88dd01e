import java.util.Random;

/**
 * Texts by chance, always the same ones: nothing but what the face names is thrown, and what is written out is
 * read as the same.
 */
public final class RandomTest {
    private static final String[] WORDS = {
        "- ", "- ", "-", "\n", "\n", "\n", "\n  ", "\n  ", "\n    ", "\n- ", "\n- ", "\n  - ", " ", "a: ", "b: ", "c:",
        "\"d\": ", "[", "]", "{", "}", "{e: ", ", ", ",", "&a ", "&b", "*a", "*b", "|", "|-", "x", "y z", "'q'",
        "\"\\n\"", "1", "0x1", "-2", "~", "true", "#", ":", "'", "\"", "\\"};
    private static int loadedTexts = 0;

    public static void main(String[] args) {
        Random random = new Random(7);
        for (int i = 0; i < 60000; i++) {
            tryText(randomText(random));
        }
        if (loadedTexts < 1000) {
            Due.tell("only " + loadedTexts + " texts could be loaded");
        }
        Due.end();
    }

    private static String randomText(Random random) {
        StringBuilder text = new StringBuilder();
        int words = 1 + random.nextInt(random.nextBoolean() ? 6 : 14);
        for (int i = 0; i < words; i++) {
            text.append(WORDS[random.nextInt(WORDS.length)]);
        }
        return text.toString();
    }

    private static void tryText(String text) {
        IndentedNotes x = Due.typed(text);
        int nodes = 0;
        try {
            nodes = x.load();
        } catch (RuntimeException e) {
            if (e.getClass() != IllegalArgumentException.class) {
                Due.tell("loading " + text + " threw " + e);
            }
            return;
        }
        loadedTexts++;
        String once = Due.writtenOut(x);
        IndentedNotes again = Due.loaded(once);
        Due.same("the outermost node of " + text + " read again", again.kind(0), x.kind(0));
        Due.same("the last node of " + text + " read again", again.kind(nodes - 1), x.kind(nodes - 1));
        Due.same("behind the last node of " + text + " read again", again.kind(nodes), -1);
        Due.same("writing out " + text + " again", Due.writtenOut(again), once);
    }
}
