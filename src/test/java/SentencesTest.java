import java.io.IOException;
import java.lang.reflect.Method;
import java.nio.file.Files;
import java.nio.file.Path;
import java.util.ArrayList;
import java.util.List;
import java.util.Map;
import java.util.TreeMap;
import java.util.stream.Collectors;
import java.util.stream.Stream;

/** Every word of the document's "Terms" and promises stands in a sentence that a test names. */
public final class SentencesTest {
    private static final Path TESTS = Path.of("src/test/java");

    public static void main(String[] args) throws IOException, ClassNotFoundException {
        Map<String, String> document = Document.sections();
        Map<String, StringBuilder> left = new TreeMap<>();
        for (Map.Entry<String, String> section : document.entrySet()) {
            if (section.getKey().equals("Terms") || section.getKey().startsWith("Promise ")) {
                left.put(section.getKey(), new StringBuilder(section.getValue()));
            }
        }
        Due.holds("the document has its terms and 16 promises,", left.size() == 17);
        for (Class<?> test : classesOfSections()) {
            strikeAll(test, document, left);
        }
        for (Map.Entry<String, StringBuilder> section : left.entrySet()) {
            String words = section.getValue().toString().replaceAll("[\\p{Punct}\\s]+", " ");
            Due.same("what no test names of \"" + section.getKey() + "\"", words.strip(), "");
        }
        Due.end();
    }

    private static List<Class<?>> classesOfSections() throws IOException, ClassNotFoundException {
        List<String> names;
        try (Stream<Path> files = Files.list(TESTS)) {
            names = files.map(file -> file.getFileName().toString())
                    .filter(name -> name.endsWith("Test.java")).sorted()
                    .collect(Collectors.toList());
        }
        List<Class<?>> classes = new ArrayList<>();
        for (String name : names) {
            Class<?> test = Class.forName(name.replace(".java", ""));
            if (test.isAnnotationPresent(Section.class)) {
                classes.add(test);
            }
        }
        return classes;
    }

    private static void strikeAll(Class<?> test, Map<String, String> document,
            Map<String, StringBuilder> left) {
        for (Method method : test.getDeclaredMethods()) {
            Sentence sentence = method.getAnnotation(Sentence.class);
            if (sentence != null) {
                strike(test.getAnnotation(Section.class).value(), sentence.value(), document, left);
            }
        }
    }

    /** Blanks the words wherever they stand in the section. */
    private static void strike(String section, String words, Map<String, String> document,
            Map<String, StringBuilder> left) {
        String text = document.getOrDefault(section, "");
        int at = text.indexOf(words);
        Due.holds("\"" + section + "\" has the words \"" + words + "\",", at >= 0);
        while (at >= 0) {
            left.get(section).replace(at, at + words.length(), " ".repeat(words.length()));
            at = text.indexOf(words, at + words.length());
        }
    }
}
