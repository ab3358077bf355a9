import java.io.IOException;
import java.lang.reflect.InvocationTargetException;
import java.lang.reflect.Method;
import java.nio.file.Files;
import java.nio.file.Path;
import java.util.ArrayList;
import java.util.Comparator;
import java.util.HashMap;
import java.util.List;
import java.util.Map;
import java.util.regex.Matcher;
import java.util.regex.Pattern;

/** Runs every method with a Sentence, and looks whether its words stand where it says (if -Ddoc tells the document). */
final class Sentences {
    private static final Pattern HEADING = Pattern.compile("^(?:## (Promise \\d+|[^:]*)|==== (\\d)\\. ).*");

    private Sentences() {
    }

    static void runAllOf(Class<?> tests) {
        Map<String, String> document = readDocument();
        List<Method> found = new ArrayList<>();
        for (Method m : tests.getDeclaredMethods()) {
            if (m.isAnnotationPresent(Sentence.class)) {
                found.add(m);
            }
        }
        found.sort(Comparator.comparing(Method::getName));
        for (Method m : found) {
            Sentence sentence = m.getAnnotation(Sentence.class);
            Bench.place = sentence.at() + ", '" + sentence.says() + "', " + m.getName();
            checkWords(sentence, document);
            run(m);
        }
        System.out.println(found.size() + " sentences");
        if (found.isEmpty()) {
            Bench.tellWrong("there are no tests");
        }
    }

    private static void run(Method test) {
        int before = Bench.asked;
        try {
            test.setAccessible(true);
            test.invoke(null);
        } catch (InvocationTargetException e) {
            Bench.tellWrong("threw " + e.getCause());
        } catch (IllegalAccessException e) {
            Bench.tellWrong("can't be run");
        }
        if (Bench.asked == before) {
            Bench.tellWrong("nothing was asked");
        }
    }

    private static void checkWords(Sentence sentence, Map<String, String> document) {
        if (document.isEmpty()) {
            return;
        }
        String section = document.getOrDefault(sentence.at(), "");
        if (!section.contains(sentence.says())) {
            Bench.tellWrong("these words don't stand there");
        }
    }

    /** The document's sections by name, each as one line. */
    private static Map<String, String> readDocument() {
        Map<String, String> sections = new HashMap<>();
        String told = System.getProperty("doc", "");
        if (told.isEmpty() || !Files.exists(Path.of(told))) {
            return sections;
        }
        try {
            String name = "";
            for (String line : Files.readAllLines(Path.of(told))) {
                Matcher heading = HEADING.matcher(line);
                if (heading.matches()) {
                    name = heading.group(1) != null ? heading.group(1) : "Terms " + heading.group(2);
                }
                sections.merge(name, line.trim() + " ", String::concat);
            }
        } catch (IOException e) {
            Bench.tellWrong("the document can't be read: " + e);
        }
        return sections;
    }
}
