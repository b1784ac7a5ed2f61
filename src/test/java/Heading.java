import java.util.ArrayList;
import java.util.LinkedHashMap;
import java.util.List;
import java.util.Map;

/**
 * The tests of what stands under one heading of ../shared/DOC.md. A test is named by the heading, by words of the sentence
 * that it tests (they must stand there), and by the case.
 */
final class Heading {
    private static final Map<String, List<String>> TESTED = new LinkedHashMap<>();

    private final String name;

    Heading(String name) {
        this.name = name;
        TESTED.put(name, new ArrayList<>());
    }

    void test(String words, String which, Tests.Body body) {
        TESTED.get(name).add(words);
        Tests.test(name + " \"" + words + "\": " + which, due -> {
            due.holds("the document says so under " + name, Doc.says(name, words));
            body.ask(due);
        });
    }

    /** Whether a test has words of the sentence, or the sentence among its words. */
    static boolean isTested(String heading, String sentence) {
        return TESTED.getOrDefault(heading, List.of()).stream()
            .anyMatch(words -> sentence.contains(words) || words.contains(sentence));
    }
}
