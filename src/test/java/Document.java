import java.io.IOException;
import java.io.UncheckedIOException;
import java.nio.file.Files;
import java.nio.file.Path;
import java.util.ArrayList;
import java.util.LinkedHashMap;
import java.util.List;
import java.util.Map;

/**
 * The sentences of ../shared/DOC.md. A test quotes the words that it is about, so that a look at the
 * end can tell whether a sentence was left without a test.
 */
final class Document {
    private static final Map<String, List<String>> SENTENCES = sentencesBySection();
    private static final Map<String, List<String>> QUOTED = new LinkedHashMap<>();

    private Document() {
    }

    /** The next checks are about these words, which stand in this section: "Terms 2" or "Promise 9". */
    static void says(String section, String words) {
        Checks.about(section + " \"" + words + "\"");
        boolean stands = false;
        for (String sentence : SENTENCES.getOrDefault(section, List.of())) {
            stands |= sentence.contains(words);
        }
        Checks.due("the document, looked through for these words,", stands, true);
        QUOTED.computeIfAbsent(section, s -> new ArrayList<>()).add(words);
    }

    static void says(int promise, String words) {
        says("Promise " + promise, words);
    }

    static void everySentenceIsQuoted() {
        Checks.about("the sentences");
        Checks.due("how many sections there are", SENTENCES.size(), 1 + 4 + 42);
        SENTENCES.forEach((section, sentences) -> {
            for (String sentence : sentences) {
                boolean isQuoted = QUOTED.getOrDefault(section, List.of()).stream().anyMatch(sentence::contains);
                Checks.due("a test that quotes " + section + " \"" + sentence + "\"", isQuoted, true);
            }
        });
    }

    private static Map<String, List<String>> sentencesBySection() {
        Map<String, List<String>> sections = new LinkedHashMap<>();
        String section = "";
        for (String line : lines()) {
            if (line.startsWith("## ")) {
                section = line.substring(3).replaceAll(":.*", "");
            } else if (section.startsWith("Terms") && line.matches("[1-4]\\. .*")) {
                section = "Terms " + line.charAt(0);
            }
            boolean isPromised = section.matches("What it is|Terms [1-4]|Promise \\d+");
            if (isPromised && !line.isBlank() && !line.matches("(#|Ahead of|A field made of).*")) {
                sections.computeIfAbsent(section, s -> new ArrayList<>()).addAll(sentencesOf(line));
            }
        }
        return sections;
    }

    /** The sentences of a line, without its number in the Terms and without a call's signature. */
    private static List<String> sentencesOf(String line) {
        String text = line.replaceFirst("^[1-4]\\. ", "").replaceFirst("^`[^`]*`: ", "").replaceFirst("^- ", "");
        return List.of(text.split("(?<=\\.) +(?=[A-Z])"));
    }

    private static List<String> lines() {
        try {
            return Files.readAllLines(Path.of("../shared/DOC.md"));
        } catch (IOException e) {
            throw new UncheckedIOException(e);
        }
    }
}
