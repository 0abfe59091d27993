import java.io.IOException;
import java.lang.reflect.InvocationTargetException;
import java.lang.reflect.Method;
import java.nio.file.Files;
import java.nio.file.Path;
import java.util.ArrayList;
import java.util.Arrays;
import java.util.Comparator;
import java.util.LinkedHashMap;
import java.util.List;
import java.util.Map;

/** Runs the tests that quote the document, and looks whether it says so and what nobody quotes. */
final class Sentences {
    private static final List<String> BINDING_WORDS = Arrays.asList("", "and", "or", "if", "but");

    private final Map<String, String> texts = new LinkedHashMap<>();
    private final Map<String, boolean[]> quoted = new LinkedHashMap<>();

    Sentences(Path document) throws IOException {
        String heading = "";
        StringBuilder text = new StringBuilder();
        for (String line : Files.readAllLines(document)) {
            if (line.startsWith("#")) {
                keep(heading, text);
                heading = headingOf(line);
                text.setLength(0);
            } else {
                text.append(wordsOf(line)).append(' ');
            }
        }
        keep(heading, text);
    }

    /** "## Promise 2: lay" is "Promise 2", and "### Lands" is "Lands". */
    private static String headingOf(String line) {
        String words = line.replaceAll("^#+ ", "");
        return words.startsWith("Promise ") ? words.substring(0, words.indexOf(':')) : words;
    }

    /** Without the signs of the layout and without the signature of a method. */
    private static String wordsOf(String line) {
        return line.replaceAll("^`[^`]*\\(.*?\\)[^`]*`: ", "").replaceAll("^- ", "").replace("`", "").trim();
    }

    private void keep(String heading, StringBuilder text) {
        String words = text.toString().replaceAll("\\s+", " ").trim();
        texts.put(heading, words);
        quoted.put(heading, new boolean[words.length()]);
    }

    /** Every test of the class makes a check and quotes words that stand where it says. */
    void run(Class<?> tests) throws IllegalAccessException {
        Method[] methods = tests.getDeclaredMethods();
        Arrays.sort(methods, Comparator.comparing(Method::getName));
        for (Method method : methods) {
            Sentence sentence = method.getAnnotation(Sentence.class);
            if (sentence != null) {
                runOne(method, sentence);
            }
        }
    }

    private void runOne(Method method, Sentence sentence) throws IllegalAccessException {
        String promise = "Promise " + sentence.promise();
        Check.within(promise + ", \"" + sentence.says() + "\" (" + method.getName() + "): ");
        Check.holds("there is no such promise", texts.containsKey(promise));
        quote(sentence.under().isEmpty() ? promise : sentence.under(), sentence.says());
        int before = Check.counted();
        try {
            method.invoke(null);
        } catch (InvocationTargetException e) {
            Check.holds("threw " + e.getCause() + " at " + e.getCause().getStackTrace()[0], false);
        }
        Check.holds("it checks nothing", Check.counted() > before);
        Check.within("");
    }

    void quote(String heading, String words) {
        String text = texts.getOrDefault(heading, "");
        boolean[] marks = quoted.getOrDefault(heading, new boolean[0]);
        Check.holds("\"" + words + "\" does not stand under " + heading, text.contains(words));
        for (int at = text.indexOf(words); at >= 0; at = text.indexOf(words, at + 1)) {
            Arrays.fill(marks, at, at + words.length(), true);
        }
    }

    /** All words under the heading are quoted, but for those that bind quoted ones together. */
    void checkQuoted(String heading) {
        String text = texts.getOrDefault(heading, "");
        boolean[] marks = quoted.getOrDefault(heading, new boolean[0]);
        Check.holds("there is nothing under " + heading, !text.isEmpty());
        List<String> left = new ArrayList<>();
        int begin = 0;
        for (int i = 0; i <= text.length(); i++) {
            if (i == text.length() || marks[i]) {
                String words = text.substring(begin, i).replaceAll("[.,;:() ]+", " ").trim();
                if (!BINDING_WORDS.contains(words)) {
                    left.add(words);
                }
                begin = i + 1;
            }
        }
        Check.holds("no test quotes of " + heading + ": " + left, left.isEmpty());
    }

    Iterable<String> headings() {
        return texts.keySet();
    }
}
