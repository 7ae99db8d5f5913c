import java.io.IOException;
import java.lang.reflect.Executable;
import java.lang.reflect.Field;
import java.lang.reflect.Modifier;
import java.nio.file.Files;
import java.nio.file.Path;
import java.util.ArrayList;
import java.util.Arrays;
import java.util.List;
import java.util.Set;
import java.util.TreeSet;
import java.util.regex.Matcher;
import java.util.regex.Pattern;
import java.util.stream.Collectors;
import java.util.stream.Stream;

/** What can be told of LANGUAGE.md's rules from the class and its text; FaceTest has rule 1's. */
public final class RulesTest {
    private static final Path MAIN = Path.of("src/main/java");
    private static final String EXCEPTIONS = "(IllegalStateException|IllegalArgumentException"
            + "|IndexOutOfBoundsException|UnsupportedOperationException)";
    private static final int MOST_CLASSES = 12;
    private static final int MOST_FIELDS = 20;
    private static final int MOST_PARAMETERS = 7;
    private static final int MOST_LINES = 60;

    public static void main(String[] args) throws IOException {
        String source = Files.readString(MAIN.resolve("BlendRows.java"));
        String code = source.replaceAll("(?s)/\\*.*?\\*/", "").replaceAll("//[^\n]*", "");
        List<Class<?>> classes = new ArrayList<>(Arrays.asList(
                BlendRows.class.getDeclaredClasses()));
        for (Class<?> nested : classes) {
            Due.holds("rule 1: " + nested.getName() + " is static,",
                    Modifier.isStatic(nested.getModifiers()));
            Due.holds("rule 1: " + nested.getName() + " is private or package-visible,",
                    (nested.getModifiers() & (Modifier.PUBLIC | Modifier.PROTECTED)) == 0);
        }
        classes.add(BlendRows.class);
        oneFile();
        names(code, classes);
        throwsOnlyByName(code);
        loopsCountToABound(code);
        methodsAreShort(code);
        Due.holds("rule 11: the number of classes,", classes.size() <= MOST_CLASSES);
        classes.forEach(RulesTest::fieldsAndParameters);
        Due.end();
    }

    private static void oneFile() throws IOException {
        try (Stream<Path> files = Files.walk(MAIN)) {
            Due.same("the files of the program",
                    files.filter(Files::isRegularFile).collect(Collectors.toList()).toString(),
                    "[src/main/java/BlendRows.java]");
        }
    }

    /** Rules 2 to 4: of the library only Math, and of that only what is over int and long. */
    private static void names(String code, List<Class<?>> classes) {
        String plain = code.replaceAll("\"[^\"]*\"", "\"\"");
        Set<String> own = classes.stream().map(Class::getSimpleName).collect(Collectors.toSet());
        Set<String> others = found("\\b([A-Z]\\w*[a-z]\\w*)", plain);
        others.removeAll(own);
        others.removeIf(name -> name.matches(EXCEPTIONS) || name.equals("Math"));
        Due.same("rule 4: other classes named", others.toString(), "[]");
        Set<String> calls = found("\\bMath\\.(\\w+)", plain);
        calls.removeAll(Set.of("abs", "min", "max"));
        Due.same("rule 4: other functions of Math", calls.toString(), "[]");
        Due.same("rules 1 to 6: words and signs that they leave out", found("(->|::|\\b(?:import"
                + "|package|double|float|try|catch|finally|synchronized|assert|equals|hashCode"
                + "|toString|native|volatile|transient)\\b)", plain).toString(), "[]");
    }

    private static void throwsOnlyByName(String code) {
        Due.same("rule 6: throws by name and written text",
                count("\\bthrow new " + EXCEPTIONS + "\\(\"[^\"]*\"\\);", code) + "",
                count("\\bthrow\\b", code) + "");
    }

    private static void loopsCountToABound(String code) {
        Due.same("rule 9: loops that count from 0 to a constant",
                count("\\bfor \\(int (\\w+) = 0; \\1 < [A-Z_]+( && [^;]+)?; \\1\\+\\+\\)", code) + "",
                count("\\b(for|while|do)\\b", code) + "");
    }

    private static void methodsAreShort(String code) {
        Matcher method = Pattern.compile("(?ms)^( {4,8})\\w[^\n;={}]*\\([^;={}]*\\{\n(.*?)^\\1\\}")
                .matcher(code);
        int methods = 0;
        while (method.find()) {
            methods++;
            Due.holds("rule 11: the lines of " + method.group().strip().lines().findFirst().get(),
                    method.group().lines().count() <= MOST_LINES);
        }
        Due.holds("rule 11: methods looked at, " + methods + ",", methods >= 15);
    }

    private static void fieldsAndParameters(Class<?> kind) {
        int fields = 0;
        for (Field field : kind.getDeclaredFields()) {
            String name = kind.getName() + "." + field.getName();
            if (Modifier.isStatic(field.getModifiers())) {
                Due.holds("rule 5: " + name + " is a final number,",
                        Modifier.isFinal(field.getModifiers()) && field.getType().isPrimitive());
            } else {
                fields++;
            }
        }
        Due.holds("rule 11: the number of fields of " + kind.getName() + ",",
                fields <= MOST_FIELDS);
        Stream.<Executable>concat(Arrays.stream(kind.getDeclaredMethods()),
                Arrays.stream(kind.getDeclaredConstructors())).forEach(call ->
                Due.holds("rule 11: the number of parameters of " + call + ",",
                        call.getParameterCount() <= MOST_PARAMETERS));
    }

    private static Set<String> found(String pattern, String code) {
        return Pattern.compile(pattern).matcher(code).results().map(result -> result.group(1))
                .collect(Collectors.toCollection(TreeSet::new));
    }

    private static long count(String pattern, String code) {
        return Pattern.compile(pattern).matcher(code).results().count();
    }
}
