import java.io.IOException;
import java.nio.file.Files;
import java.nio.file.Path;
import java.util.ArrayList;
import java.util.LinkedHashMap;
import java.util.List;
import java.util.Map;

/** Each sentence of the document has a test, and each test's words stand in the document. */
public final class DocumentTest {
    private static final Path DOCUMENT = Path.of("..", "shared", "DOC.md");

    /** How sentences begin that ask nothing of an object's answers. */
    private static final String[] SILENT = {
        "A system of mounts:", "what later calls answer is free", "Its calls are those of an administrator:",
        "Ahead of the calls ",
    };

    private static final Checks CHECKS = new Checks();

    public static void main(String[] args) throws IOException {
        Map<String, List<String>> document = read(Files.readAllLines(DOCUMENT));
        List<Sentences.Held> tests = allTests();
        for (Map.Entry<String, List<String>> section : document.entrySet()) {
            for (String sentence : section.getValue()) {
                CHECKS.due(true, section.getKey() + " \"" + sentence + "\" has a test",
                        () -> isTested(section.getKey(), sentence, tests));
            }
        }
        for (Sentences.Held test : tests) {
            CHECKS.due(true, "the document says " + test, () -> isSaid(test, document));
        }
        CHECKS.end();
    }

    private static List<Sentences.Held> allTests() {
        List<Sentences.Held> tests = new ArrayList<>();
        tests.addAll(TermsTest.sentences().all());
        tests.addAll(RefusalsTest.sentences().all());
        tests.addAll(LayersAndMountsTest.sentences().all());
        tests.addAll(FilesAndLinksTest.sentences().all());
        tests.addAll(LinksTest.sentences().all());
        tests.addAll(QuotasTest.sentences().all());
        tests.addAll(BackupsTest.sentences().all());
        tests.addAll(FiguresTest.sentences().all());
        return tests;
    }

    private static boolean isTested(String section, String sentence, List<Sentences.Held> tests) {
        for (Sentences.Held test : tests) {
            if (test.section().equals(section) && sentence.contains(test.words())) {
                return true;
            }
        }
        return false;
    }

    private static boolean isSaid(Sentences.Held test, Map<String, List<String>> document) {
        for (String sentence : document.getOrDefault(test.section(), List.of())) {
            if (sentence.contains(test.words())) {
                return true;
            }
        }
        return false;
    }

    // ---- the document

    /** The sentences that ask something, by section: a heading, or a word ahead of a paragraph. */
    private static Map<String, List<String>> read(List<String> lines) {
        Map<String, List<String>> document = new LinkedHashMap<>();
        String heading = "";
        for (String line : lines) {
            if (line.startsWith("## ")) {
                heading = line.substring(3);
            } else if (heading.startsWith("Promise ")) {
                add(document, heading.substring(0, heading.indexOf(':') + 1), partsOfPromise(line));
            } else if (heading.equals("Terms") && line.matches("[A-Z][a-z]+\\. .*")) {
                String term = line.substring(0, line.indexOf('.'));
                add(document, term, partsOfText(line.substring(term.length() + 2)));
            } else if (heading.equals("Terms") || heading.equals("What it is")) {
                add(document, heading, partsOfText(line));
            }
        }
        return document;
    }

    private static void add(Map<String, List<String>> document, String section, String[] parts) {
        for (String part : parts) {
            if (!part.isBlank() && !isSilent(part)) {
                document.computeIfAbsent(section, key -> new ArrayList<>()).add(part);
            }
        }
    }

    private static boolean isSilent(String sentence) {
        for (String beginning : SILENT) {
            if (sentence.startsWith(beginning)) {
                return true;
            }
        }
        return false;
    }

    private static String[] partsOfText(String line) {
        return line.split("(?<=\\.) |; ");
    }

    /** A line of a promise, without the call that it begins with, or each reason to throw. */
    private static String[] partsOfPromise(String line) {
        return line.startsWith("Throws ") ? line.split(", (?=or )") : new String[] {line.replaceFirst("^`[^`]*\\(.*?`: ", "")};
    }
}
