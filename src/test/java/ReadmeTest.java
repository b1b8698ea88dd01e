import java.io.IOException;
import java.nio.file.Files;
import java.nio.file.Path;
import java.util.regex.Matcher;
import java.util.regex.Pattern;

/** The examples of README.md: each must be as README.md says. It is run from the project's folder. */
public final class ReadmeTest {
    private static final Pattern NOTES_AND_WRITTEN =
        Pattern.compile("```notes\n(.*?)\n```.*?```written\n(.*?)\n```", Pattern.DOTALL);
    private static final Pattern FACE_CALL = Pattern.compile("\\| `(\\w+)\\([^)]*\\)` \\|");

    public static void main(String[] args) throws IOException {
        String readme = Files.readString(Path.of("README.md"));
        notesAreWrittenOut(readme);
        callsAnswer();
        everyCallIsTold(readme);
        Due.end();
    }

    private static void notesAreWrittenOut(String readme) {
        Matcher example = NOTES_AND_WRITTEN.matcher(readme);
        int examples = 0;
        while (example.find()) {
            Due.loads(example.group(1), example.group(2));
            examples++;
        }
        Due.same("how many examples README.md has", examples, 2);
    }

    private static void callsAnswer() {
        IndentedNotes notes = new IndentedNotes();
        Due.same("type of eight", notes.type(0x613a205b312c2078L, 8), 8);
        Due.same("type of one", notes.type(']', 1), 9);
        Due.same("load", notes.load(), 5);
        int row = notes.find(0, 'a');
        Due.same("find", row, 2);
        Due.same("number", notes.number(notes.item(row, 0)), 1);
        Due.same("write", notes.write(), 15);
        Due.same("written at 0", notes.written(0), 123);
        Due.same("written", Due.written(notes), "{\"a\": [1, \"x\"]}");
    }

    private static void everyCallIsTold(String readme) {
        StringBuilder told = new StringBuilder();
        Matcher call = FACE_CALL.matcher(readme);
        while (call.find()) {
            told.append(call.group(1)).append(' ');
        }
        Due.same("the calls that README.md tells", told.toString(),
            "type wipe load kind size item key number letter find write written ");
    }
}
