import java.lang.reflect.InvocationTargetException;
import java.lang.reflect.Method;
import java.util.Arrays;
import java.util.Comparator;

/** Counts the answers that are not as due; end() closes a test with exit code 1 if there is one. */
final class Due {
    private static int wrong = 0;
    private static String heading = "";

    private Due() {
    }

    static void same(String what, String got, String want) {
        if (!got.equals(want)) {
            wrong++;
            System.out.println(heading + what + " answered " + got + ", due is " + want);
        }
    }

    static void holds(String what, boolean good) {
        same(what, good ? "yes" : "no", "yes");
    }

    /** Runs every method of the class that names its sentence, each with a run of its own. */
    static void sentencesOf(Class<?> test) {
        Method[] methods = test.getDeclaredMethods();
        Arrays.sort(methods, Comparator.comparing(Method::getName));
        for (Method method : methods) {
            Sentence sentence = method.getAnnotation(Sentence.class);
            if (sentence != null) {
                heading = test.getName() + "." + method.getName() + ", \"" + sentence.value()
                        + "\": ";
                tryOut(method);
            }
        }
        heading = "";
        end();
    }

    private static void tryOut(Method method) {
        Run run = new Run();
        try {
            method.invoke(null, run);
        } catch (InvocationTargetException e) {
            same("the test", "throws " + e.getCause(), "nothing thrown");
        } catch (IllegalAccessException | IllegalArgumentException e) {
            same("the test", "can't be called: " + e, "a method with a run");
        }
        run.end();
    }

    static void end() {
        System.out.println(wrong == 0 ? "all answers are as due"
                : wrong + " answers are not as due");
        if (wrong != 0) {
            System.exit(1);
        }
    }
}
