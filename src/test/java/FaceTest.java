import java.lang.reflect.Field;
import java.lang.reflect.Method;
import java.lang.reflect.Modifier;
import java.util.Set;
import java.util.TreeSet;

/** The public face is the document's, with its throws, and nothing more is visible. */
public final class FaceTest {
    private static final String I = "IndexOutOfBoundsException";
    private static final String S = "IllegalStateException";
    private static final String A = "IllegalArgumentException";
    private static final String U = "UnsupportedOperationException";

    public static void main(String[] args) {
        Set<String> want = new TreeSet<>(Set.of(
                "void moisture(2) " + I + " " + A,
                "void element(3) " + I + " " + A,
                "int ship(4) " + I + " " + S + " " + A,
                "int stock(1) " + I,
                "int pile(1) " + S + " " + A,
                "int lay(3) " + I + " " + S + " " + A + " " + U,
                "int slice(1) " + I + " " + S,
                "long share(3) " + I + " " + S + " " + U,
                "long basicity(2) " + I + " " + S + " " + U,
                "long spread(3) " + I + " " + S,
                "int pileAt(2) " + I,
                "long mix(5) " + I + " " + A + " " + U,
                "int point(2) " + S + " " + A,
                "long fit(2) " + I + " " + U,
                "int tick(1) " + A));
        Set<String> got = new TreeSet<>();
        Set<String> hidden = new TreeSet<>();
        for (Method method : BlendRows.class.getDeclaredMethods()) {
            if (Modifier.isPrivate(method.getModifiers())) {
                hidden.add(method.getName());
            } else {
                got.add(told(method));
            }
        }
        Due.same("the face", got.toString(), want.toString());
        for (String line : want) {
            String name = line.substring(line.indexOf(' ') + 1, line.indexOf('('));
            Due.holds("no private method is named " + name + ",", !hidden.contains(name));
        }
        for (Field field : BlendRows.class.getDeclaredFields()) {
            Due.holds("the field " + field.getName() + " is private,",
                    Modifier.isPrivate(field.getModifiers()));
        }
        Due.same("the class", Modifier.toString(BlendRows.class.getModifiers()), "public final");
        Due.holds("one constructor", BlendRows.class.getDeclaredConstructors().length == 1);
        Due.holds("a public constructor", BlendRows.class.getConstructors().length == 1);
        Due.end();
    }

    private static String told(Method method) {
        StringBuilder text = new StringBuilder();
        if (!Modifier.isPublic(method.getModifiers()) || Modifier.isStatic(method.getModifiers())) {
            text.append("not public, or static: ");
        }
        text.append(method.getReturnType().getSimpleName()).append(' ');
        text.append(method.getName()).append('(').append(method.getParameterCount()).append(')');
        for (Class<?> parameter : method.getParameterTypes()) {
            text.append(parameter == int.class ? "" : " not an int");
        }
        for (Class<?> thrown : method.getExceptionTypes()) {
            text.append(' ').append(thrown.getSimpleName());
        }
        return text.toString();
    }
}
