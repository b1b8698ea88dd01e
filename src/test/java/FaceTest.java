import java.lang.reflect.Constructor;
import java.lang.reflect.Field;
import java.lang.reflect.Method;
import java.lang.reflect.Modifier;
import java.util.Map;
import java.util.TreeMap;

/** The class has the public face of the document, and nothing else that can be seen from outside. */
public final class FaceTest {
    private static final Map<String, String> FACE = new TreeMap<>();

    public static void main(String[] args) {
        FACE.put("type", "public int IndentedNotes.type(long,int)");
        FACE.put("wipe", "public int IndentedNotes.wipe()");
        FACE.put("load", "public int IndentedNotes.load() throws java.lang.IllegalArgumentException");
        FACE.put("kind", "public int IndentedNotes.kind(int)");
        FACE.put("size", "public int IndentedNotes.size(int)");
        FACE.put("item", "public int IndentedNotes.item(int,int) throws java.lang.IndexOutOfBoundsException");
        FACE.put("key", "public int IndentedNotes.key(int,int) throws java.lang.IndexOutOfBoundsException");
        FACE.put("number", "public long IndentedNotes.number(int) throws java.lang.IllegalArgumentException");
        FACE.put("letter", "public int IndentedNotes.letter(int,int)");
        FACE.put("find", "public int IndentedNotes.find(int,int)");
        FACE.put("write", "public int IndentedNotes.write() throws java.lang.IllegalStateException");
        FACE.put("written", "public int IndentedNotes.written(int)");

        Due.same("the class", Modifier.toString(IndentedNotes.class.getModifiers()), "public final");
        Due.same("NONE", IndentedNotes.NONE, -1);
        methods();
        fields();
        for (Constructor<?> c : IndentedNotes.class.getDeclaredConstructors()) {
            Due.same("the constructor", c.toString(), "public IndentedNotes()");
        }
        Due.end();
    }

    private static void methods() {
        Map<String, String> left = new TreeMap<>(FACE);
        for (Method m : IndentedNotes.class.getDeclaredMethods()) {
            if (FACE.containsKey(m.getName())) {
                Due.same(m.getName(), m.toString(), FACE.get(m.getName()));
                left.remove(m.getName());
            } else if (!Modifier.isPrivate(m.getModifiers())) {
                Due.tell(m + " can be seen");
            }
        }
        Due.same("what the face lacks", left.toString(), "{}");
        for (Class<?> inside : IndentedNotes.class.getDeclaredClasses()) {
            for (Method m : inside.getDeclaredMethods()) {
                if (FACE.containsKey(m.getName())) {
                    Due.tell(m + " bears a name of the face");
                }
            }
        }
    }

    private static void fields() {
        for (Field f : IndentedNotes.class.getDeclaredFields()) {
            if (f.getName().equals("NONE")) {
                Due.same("NONE", f.toString(), "public static final int IndentedNotes.NONE");
            } else if (!Modifier.isPrivate(f.getModifiers())) {
                Due.tell(f + " can be seen");
            }
        }
    }
}
