import java.io.IOException;
import java.nio.file.Files;
import java.nio.file.Path;
import java.util.ArrayList;
import java.util.Arrays;
import java.util.LinkedHashMap;
import java.util.List;
import java.util.Map;

/**
 * Runs tests that stand for one sentence of the document each (or for a part of one that names a case of its own).
 * A test is told with the section and the words that it stands for: so a failure names its promise, and words of
 * the document that no test stands for are found.
 */
final class Sentences {
    interface Test {
        void run(Sentences s);
    }

    private static final Path DOCUMENT = Path.of("../shared/DOC.md");
    private static final int PROMISES = 26;

    private final Checks checks;
    private final Map<String, List<String>> quotes = new LinkedHashMap<>();
    private String label = "";
    private int answers;

    Sentences(String test) {
        checks = new Checks(test);
    }

    void test(String section, String words, Test test) {
        quotes.computeIfAbsent(section, s -> new ArrayList<>()).add(words);
        label = section + ", \"" + words + "\": ";
        answers = 0;
        try {
            test.run(this);
        } catch (RuntimeException | StackOverflowError thrown) {
            checks.due(label + "threw " + thrown + ", which", false, true);
        }
        if (answers == 0) {
            checks.due(label + "the test looks at an answer", true, false);
        }
    }

    void due(String call, long want, long got) {
        answers++;
        checks.due(label + call, want, got);
    }

    void due(String call, boolean want, boolean got) {
        due(call, want ? 1 : 0, got ? 1 : 0);
    }

    /** All that can be asked is as it was. */
    void unchanged(String calls, String before, PapersHeld x) {
        String after = Papers.answers(x);
        due(calls + ": was " + before + ", is " + after + "; unchanged", true, before.equals(after));
    }

    void finish() {
        if (Files.isReadable(DOCUMENT)) {
            compareWithTheDocument();
        } else {
            System.out.println("no " + DOCUMENT + ": the words of the tests were not compared with it");
        }
        checks.finish();
    }

    private void compareWithTheDocument() {
        Map<String, String> sections = sections();
        quotes.forEach((section, words) -> words.forEach(quote -> checks.due(section + " says \"" + quote + "\"", true,
                sections.getOrDefault(section, "").contains(quote))));
        everyWordIsTested(sections, "Terms");
        for (int promise = 1; promise <= PROMISES; promise++) {
            everyWordIsTested(sections, "Promise " + promise);
        }
    }

    private void everyWordIsTested(Map<String, String> sections, String section) {
        String text = sections.getOrDefault(section, "");
        boolean[] tested = new boolean[text.length()];
        for (String quote : quotes.getOrDefault(section, List.of())) {
            for (int at = text.indexOf(quote); at >= 0; at = text.indexOf(quote, at + 1)) {
                Arrays.fill(tested, at, at + quote.length(), true);
            }
        }
        StringBuilder untested = new StringBuilder();
        for (int i = 0; i < text.length(); i++) {
            if (!tested[i]) {
                untested.append(text.charAt(i));
            }
        }
        boolean isWhole = !text.isEmpty() && untested.toString().replaceAll("[^A-Za-z0-9]", "").isEmpty();
        checks.due(section + ": words without a test: \"" + untested.toString().trim() + "\"; every word has one", true, isWhole);
    }

    /** The text of each section, in one line, without what is no sentence: the face, fences, the mark of part II. */
    private static Map<String, String> sections() {
        Map<String, String> sections = new LinkedHashMap<>();
        String name = "";
        for (String line : lines()) {
            if (line.startsWith("## ")) {
                name = line.substring(3).replaceAll(":.*", "");
            } else if (!line.startsWith("```") && !line.startsWith("#")) {
                String words = line.replaceAll("^`[^`]*\\)`: ", "").replace("==== II. ", "").trim();
                sections.merge(name, words, (before, more) -> (before + " " + more).trim());
            }
        }
        return sections;
    }

    private static List<String> lines() {
        try {
            return Files.readAllLines(DOCUMENT);
        } catch (IOException unread) {
            throw new IllegalStateException(unread);
        }
    }
}
