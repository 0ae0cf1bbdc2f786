import java.lang.reflect.Constructor;
import java.lang.reflect.Field;
import java.lang.reflect.Method;
import java.lang.reflect.Modifier;
import java.util.Arrays;
import java.util.TreeSet;

/** The public face: what the document lists, and nothing else that can be seen from outside. */
public final class FaceTest {
    public static void main(String[] args) {
        Checks checks = new Checks();
        Class<?> face = DecimalReader.class;
        same(checks, "modifiers", "public final", Modifier.toString(face.getModifiers()));
        TreeSet<String> members = new TreeSet<>();
        for (Constructor<?> constructor : face.getDeclaredConstructors()) {
            addVisible(members, constructor.getModifiers(), constructor.toString());
        }
        for (Method method : face.getDeclaredMethods()) {
            addVisible(members, method.getModifiers(), method.toString());
        }
        for (Field field : face.getDeclaredFields()) {
            addVisible(members, field.getModifiers(), field.toString());
        }
        TreeSet<String> due = new TreeSet<>(Arrays.asList(
            "public DecimalReader()",
            "public int DecimalReader.feed(int,int,int,int,int) throws java.lang.IndexOutOfBoundsException",
            "public int DecimalReader.end(int) throws java.lang.IllegalArgumentException",
            "public long DecimalReader.parse() throws java.lang.UnsupportedOperationException",
            "public int DecimalReader.parseFloat() throws java.lang.UnsupportedOperationException"));
        same(checks, "members", due.toString(), members.toString());
        checks.finish();
    }

    private static void addVisible(TreeSet<String> members, int modifiers, String member) {
        if (!Modifier.isPrivate(modifiers)) {
            members.add(member);
        }
    }

    private static void same(Checks checks, String what, String want, String got) {
        checks.due(what + " " + got + " for " + want, () -> want.equals(got) ? 1 : 0, 1);
    }
}
