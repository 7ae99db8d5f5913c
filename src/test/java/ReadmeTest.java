import java.io.IOException;
import java.lang.reflect.Method;
import java.lang.reflect.Modifier;
import java.nio.file.Files;
import java.nio.file.Path;
import java.util.Arrays;
import java.util.HashMap;
import java.util.List;
import java.util.Map;
import java.util.Set;
import java.util.TreeSet;
import java.util.regex.Matcher;
import java.util.regex.Pattern;
import java.util.stream.Collectors;

/** README.md: its example answers as it says, and its table has every call with what it throws. */
public final class ReadmeTest {
    private static final Pattern CALL = Pattern.compile("(?:(?:(int|long) )?(\\w+) = )?"
            + "rows\\.(\\w+)\\(([^)]*)\\);(?: +// (.*))?");
    private static final Pattern ROW = Pattern.compile("\\| `(\\w+)\\(([^)]*)\\)` \\|(.*)\\|");

    /** The columns of the table behind the calls and their answers. */
    private static final List<Class<? extends RuntimeException>> COLUMNS =
            List.of(Run.INDEX, Run.TURN, Run.RANGE, Run.MEANING);

    private static final BlendRows ROWS = new BlendRows();
    private static final Map<String, String> VALUES = new HashMap<>();

    public static void main(String[] args) throws IOException {
        String text = Files.readString(Path.of("README.md"));
        Set<String> face = Arrays.stream(BlendRows.class.getDeclaredMethods())
                .filter(method -> Modifier.isPublic(method.getModifiers()))
                .map(Method::getName).collect(Collectors.toCollection(TreeSet::new));
        Due.same("the calls of the example", example(text).toString(), face.toString());
        Due.same("the calls of the table", table(text).toString(), face.toString());
        Due.holds("how the tests are run is told,", text.contains("```sh\n.ci/run\n```"));
        Due.end();
    }

    private static Set<String> example(String text) {
        Set<String> called = new TreeSet<>();
        int begin = text.indexOf("```java\n") + "```java\n".length();
        for (String line : text.substring(begin, text.indexOf("```", begin)).split("\n")) {
            Matcher call = CALL.matcher(line);
            if (call.matches()) {
                tryOut(line, call);
                called.add(call.group(3));
            } else if (!line.isEmpty() && !line.startsWith("//")) {
                Due.same("a line of the example", line, "BlendRows rows = new BlendRows();");
            }
        }
        return called;
    }

    private static void tryOut(String line, Matcher call) {
        Method method = Face.method(BlendRows.class, call.group(3));
        int[] with = Arrays.stream(call.group(4).split(", "))
                .mapToInt(word -> Integer.parseInt(VALUES.getOrDefault(word, word))).toArray();
        String got = Face.answer(method, ROWS, with).replace("java.lang.", "");
        String told = call.group(5) == null ? "" : call.group(5).replaceFirst(":.*", "");
        boolean answers = method.getReturnType() != void.class || told.startsWith("throws");
        Due.same("README: " + line, got, answers ? told : "null");
        if (call.group(1) != null) {
            Due.same("README, type: " + line, call.group(1), method.getReturnType().getName());
            Due.holds("README, a new name: " + line, !VALUES.containsKey(call.group(2)));
        }
        if (call.group(2) != null) {
            VALUES.put(call.group(2), got);
        }
    }

    private static Set<String> table(String text) {
        Set<String> named = new TreeSet<>();
        text.lines().map(ROW::matcher).filter(Matcher::matches).forEach(row -> {
            Method method = Face.method(BlendRows.class, row.group(1));
            Due.same("README, parameters of " + row.group(1), row.group(2).split(", ").length + "",
                    method.getParameterCount() + "");
            String[] cells = row.group(3).split("\\|", -1);
            Due.same("README, columns of " + row.group(1), cells.length + "", "5");
            for (int column = 0; column < COLUMNS.size(); column++) {
                Class<?> kind = COLUMNS.get(column);
                Due.same("README, " + row.group(1) + " throws " + kind.getName(),
                        !cells[column + 1].isBlank() + "",
                        Arrays.asList(method.getExceptionTypes()).contains(kind) + "");
            }
            named.add(row.group(1));
        });
        return named;
    }
}
