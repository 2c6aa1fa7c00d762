import java.lang.reflect.Constructor;
import java.lang.reflect.Field;
import java.lang.reflect.Method;
import java.lang.reflect.Modifier;
import java.util.Set;
import java.util.TreeSet;

/** The public face: what the document names and nothing more. */
final class FaceTest {
    public static void main(String[] args) {
        Class<?> face = ExactNotation.class;
        Checks.same("class", Modifier.toString(face.getModifiers()), "public final");
        Set<String> seen = new TreeSet<>();
        for (Constructor<?> c : face.getDeclaredConstructors()) {
            addIfSeen(seen, c.getModifiers(), c.isSynthetic(), c.toGenericString());
        }
        for (Method m : face.getDeclaredMethods()) {
            addIfSeen(seen, m.getModifiers(), m.isSynthetic(), m.toGenericString());
        }
        for (Field f : face.getDeclaredFields()) {
            addIfSeen(seen, f.getModifiers(), f.isSynthetic(), f.toGenericString());
        }
        Checks.same("members", String.join("\n", seen), String.join("\n", new TreeSet<>(Set.of(
            "public ExactNotation()",
            "public int ExactNotation.show(int,int,boolean,boolean,long) throws java.lang.IllegalArgumentException",
            "public int ExactNotation.showFloat(int,int,boolean,boolean,int) throws java.lang.IllegalArgumentException",
            "public long ExactNotation.word(int) throws java.lang.IndexOutOfBoundsException"))));
        Checks.end();
    }

    private static void addIfSeen(Set<String> seen, int modifiers, boolean synthetic, String member) {
        if (!Modifier.isPrivate(modifiers) && !synthetic) {
            seen.add(member);
        }
    }
}
