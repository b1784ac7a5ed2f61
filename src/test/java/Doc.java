import java.io.IOException;
import java.io.UncheckedIOException;
import java.nio.file.Files;
import java.nio.file.Path;
import java.util.ArrayList;
import java.util.LinkedHashMap;
import java.util.List;
import java.util.Map;
import java.util.Set;

/** ../shared/DOC.md, cut at its headings ("Promise 2", "SENDING"), and these into sentences. */
final class Doc {
    private static final Map<String, List<String>> LINES = read();

    private Doc() {
    }

    private static Map<String, List<String>> read() {
        Map<String, List<String>> lines = new LinkedHashMap<>();
        List<String> under = new ArrayList<>();
        for (String line : allLines()) {
            if (line.startsWith("## ") || line.matches("[A-Z]+( [A-Z]+)*")) {
                under = new ArrayList<>();
                lines.put(line.replaceFirst("^## ", "").replaceFirst("^(Promise [0-9]+):.*", "$1"), under);
            } else if (!line.isBlank()) {
                under.add(line.replaceAll("\\s+", " ").trim());
            }
        }
        return lines;
    }

    private static List<String> allLines() {
        try {
            return Files.readAllLines(Path.of("../shared/DOC.md"));
        } catch (IOException unread) {
            throw new UncheckedIOException(unread);
        }
    }

    static Set<String> headings() {
        return LINES.keySet();
    }

    static boolean says(String heading, String words) {
        return LINES.getOrDefault(heading, List.of()).stream().anyMatch(line -> line.contains(words));
    }

    /** A line of arguments is one; so is each part of what is returned. */
    static List<String> sentences(String heading) {
        List<String> sentences = new ArrayList<>();
        for (String line : LINES.getOrDefault(heading, List.of())) {
            String words = line.replaceFirst("^`[^`]*\\)`: ", "");
            if (words.startsWith("- ")) {
                sentences.add(words);
            } else {
                for (String sentence : words.split("(?<=\\.|\\.\\))\\s+")) {
                    sentences.addAll(sentence.startsWith("Returns ") ? List.of(sentence.split("; ")) : List.of(sentence));
                }
            }
        }
        return sentences;
    }
}
