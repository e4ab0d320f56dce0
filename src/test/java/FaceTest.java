import java.lang.reflect.Constructor;
import java.lang.reflect.Field;
import java.lang.reflect.Method;
import java.lang.reflect.Modifier;
import java.util.Arrays;
import java.util.List;
import java.util.TreeSet;

/** The class shows the face of the document, and nothing else. */
public final class FaceTest {
    private static final List<String> FACE = List.of(
            "boolean check(int, int, int) IllegalArgumentException IllegalStateException UnsupportedOperationException",
            "boolean hasBody(int)",
            "boolean same(int, int, int) IllegalArgumentException UnsupportedOperationException",
            "int constants()",
            "int declare(int, int) IllegalArgumentException IllegalStateException UnsupportedOperationException",
            "int define(int, int) IllegalArgumentException IllegalStateException UnsupportedOperationException",
            "int infer(int, int) IllegalArgumentException IllegalStateException UnsupportedOperationException",
            "int keep()",
            "int make(int, int, int)",
            "int mark(int)",
            "int reduce(int, int) IllegalArgumentException UnsupportedOperationException",
            "int reduced()",
            "int term(int, int)",
            "int terms()",
            "int typeOf(int)");

    public static void main(String[] args) {
        Due due = new Due();
        TreeSet<String> shown = new TreeSet<>();
        TreeSet<String> hidden = new TreeSet<>();
        for (Method m : TermJudge.class.getDeclaredMethods()) {
            if (Modifier.isPublic(m.getModifiers())) {
                shown.add(signature(m));
            } else {
                due.is(m.getName() + " is private", Modifier.isPrivate(m.getModifiers()) || m.isSynthetic(), true);
                hidden.add(m.getName());
            }
        }
        due.is("the public methods", List.copyOf(shown), FACE);
        for (String line : FACE) {
            String name = line.substring(line.indexOf(' ') + 1, line.indexOf('('));
            due.is("a private method " + name, hidden.contains(name), false);
        }
        for (Field f : TermJudge.class.getDeclaredFields()) {
            boolean isPrivate = Modifier.isPrivate(f.getModifiers());
            due.is("field " + f.getName() + " is private or NONE", isPrivate || f.getName().equals("NONE"), true);
        }
        Constructor<?>[] made = TermJudge.class.getDeclaredConstructors();
        due.is("constructors", made.length, 1);
        due.is("its modifiers", made[0].getModifiers(), Modifier.PUBLIC);
        due.is("its parameters", made[0].getParameterCount(), 0);
        due.is("the class's modifiers", TermJudge.class.getModifiers(), Modifier.PUBLIC | Modifier.FINAL);
        due.is("NONE", TermJudge.NONE, -1);
        due.end("FaceTest");
    }

    private static String signature(Method m) {
        StringBuilder text = new StringBuilder(m.getReturnType() + " " + m.getName() + "(");
        String[] parameters = Arrays.stream(m.getParameterTypes()).map(Class::getSimpleName).toArray(String[]::new);
        text.append(String.join(", ", parameters)).append(')');
        for (Class<?> e : m.getExceptionTypes()) {
            text.append(' ').append(e.getSimpleName());
        }
        return text.toString();
    }
}
