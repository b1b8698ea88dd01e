import java.lang.reflect.Field;
import java.util.Arrays;

/**
 * Promise 12: "IllegalStateException when .. there would be more than 26 letters." A node that is had once more costs
 * eight characters of a text at least (as ",&a 1,*a"), so that no text of 200 has more than 25 of them. What is
 * loaded is therefore changed from inside here: each of some items counts as one that is had twice.
 */
public final class BoundLettersTest {
    public static void main(String[] args) throws ReflectiveOperationException {
        mostOfAText();
        exactly26();
        moreThan26();
        Due.end();
    }

    private static void mostOfAText() {
        String text = "&a [*a" + ",&a 1,*a".repeat(24) + "]";
        Due.same("the length of the text", text.length(), 199);
        StringBuilder want = new StringBuilder("&a [*a");
        for (char c = 'b'; c <= 'y'; c++) {
            want.append(", &").append(c).append(" 1, *").append(c);
        }
        Due.loads(text, want.append("]").toString());
    }

    private static void exactly26() throws ReflectiveOperationException {
        IndentedNotes x = Due.loaded("[" + "1,".repeat(29) + "1]");
        haveTwice(x, 1, 26);
        Due.same("26 letters", x.write(), 2 + 30 + 29 * 2 + 26 * 3);
        Due.same("the last letter", x.written(1 + 25 * 6 + 1), 'z');
    }

    private static void moreThan26() throws ReflectiveOperationException {
        IndentedNotes x = Due.loaded("[" + "1,".repeat(29) + "1]");
        String before = Due.writtenOut(x);
        haveTwice(x, 1, 27);
        Due.thrown("write() with 27 letters", IllegalStateException.class, x::write);
        Due.same("what was written out", Due.written(x), before);
        haveTwice(x, 1, 30);
        Due.thrown("write() with 30 letters", IllegalStateException.class, x::write);
        haveTwice(x, 0, 27);
        Due.thrown("write() with 27 letters, the outermost node's too", IllegalStateException.class, x::write);
        haveTwice(x, 1, 0);
        Due.same("write() without letters", Due.writtenOut(x), before);
    }

    /** Makes some nodes from this one on count as had twice, and all others as had once. */
    private static void haveTwice(IndentedNotes x, int first, int some) throws ReflectiveOperationException {
        Field loaded = IndentedNotes.class.getDeclaredField("loaded");
        loaded.setAccessible(true);
        Object nodes = loaded.get(x);
        Field timesHad = nodes.getClass().getDeclaredField("timesHad");
        timesHad.setAccessible(true);
        int[] times = (int[]) timesHad.get(nodes);
        Arrays.fill(times, 1);
        Arrays.fill(times, first, first + some, 2);
    }
}
