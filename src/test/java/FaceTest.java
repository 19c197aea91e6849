import java.lang.reflect.Constructor;
import java.lang.reflect.Field;
import java.lang.reflect.Method;
import java.lang.reflect.Modifier;
import java.util.Set;
import java.util.TreeSet;

/** The public face: the members that the document names, and no others that are not private. */
public final class FaceTest {
    private static final Set<String> FACE = Set.of(
        "public static final int GateHalls.BAD",
        "public GateHalls()",
        "public int GateHalls.hall(int,int,int)",
        "public int GateHalls.share(int,int)",
        "public int GateHalls.parent(int,int)",
        "public int GateHalls.fill(int)",
        "public int GateHalls.walk(int,int,int)",
        "public int GateHalls.seek(long)",
        "public int GateHalls.told(int,int)",
        "public int GateHalls.gifts(int)",
        "public int GateHalls.trace(int)",
        "public int GateHalls.count(int)");

    public static void main(String[] args) {
        Set<String> seen = new TreeSet<>();
        for (Field field : GateHalls.class.getDeclaredFields()) {
            note(seen, field.getModifiers(), field.toString());
        }
        for (Constructor<?> constructor : GateHalls.class.getDeclaredConstructors()) {
            note(seen, constructor.getModifiers(), constructor.toString());
        }
        for (Method method : GateHalls.class.getDeclaredMethods()) {
            note(seen, method.getModifiers(), method.toString());
        }
        Due due = new Due();
        for (String member : FACE) {
            due.is("the face has " + member, seen.contains(member) ? 1 : 0, 1);
        }
        for (String member : seen) {
            due.is("the document names " + member, FACE.contains(member) ? 1 : 0, 1);
        }
        int modifiers = GateHalls.class.getModifiers();
        due.is("public and final", Modifier.isPublic(modifiers) && Modifier.isFinal(modifiers) ? 1 : 0, 1);
        due.is("BAD", GateHalls.BAD, -1);
        due.end();
    }

    private static void note(Set<String> seen, int modifiers, String member) {
        if (!Modifier.isPrivate(modifiers)) {
            seen.add(member);
        }
    }
}
