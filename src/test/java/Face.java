import java.lang.reflect.InvocationTargetException;
import java.lang.reflect.Method;
import java.util.Arrays;

/** Calls by their names, so that a test tells a call once, for the machine and for the reader. */
final class Face {
    private Face() {
    }

    static Method method(Class<?> kind, String name) {
        for (Method method : kind.getDeclaredMethods()) {
            if (method.getName().equals(name)) {
                return method;
            }
        }
        throw new IllegalStateException("there is no call " + name);
    }

    /** A void call answers null; what a call throws is told by its very class. */
    static String answer(Method call, Object asked, int[] with) {
        try {
            return String.valueOf(call.invoke(asked, Arrays.stream(with).boxed().toArray()));
        } catch (InvocationTargetException e) {
            return "throws " + e.getCause().getClass().getName();
        } catch (IllegalAccessException e) {
            return "can't be called";
        }
    }

    static String told(String name, int[] with) {
        String list = Arrays.toString(with);
        return name + "(" + list.substring(1, list.length() - 1) + ")";
    }
}
