import java.io.IOException;
import java.io.UncheckedIOException;
import java.nio.file.Files;
import java.nio.file.Path;
import java.util.ArrayList;
import java.util.LinkedHashMap;
import java.util.List;
import java.util.Map;

/**
 * Tests of single sentences of the document. Each names the section and the sentence that it is for,
 * as they stand in the document, so that none is left behind when the document changes.
 */
final class Sentence {
    private static final Path DOCUMENT = Path.of("../shared/DOC.md");
    // Sentences that nothing can be asked about.
    private static final List<String> NOT_ASKED = List.of("A school of programs: ", "Ahead of the calls");
    private static final List<String> NOT_ASKED_SECTIONS = List.of("The public face", "Not promised");

    private static final Map<String, String> sections = read();
    private static final Map<String, List<String>> named = new LinkedHashMap<>();
    private static String section = "";

    private Sentence() {
    }

    /** The sentences that follow stand in a section, which is told by its heading. */
    static void section(String heading) {
        section = heading;
        Check.about(heading);
        Check.due("the document has the section", true, sections.containsKey(heading));
        named.putIfAbsent(heading, new ArrayList<>());
    }

    static void holds(String sentence, Runnable test) {
        Check.about(section + ": \"" + sentence + "\"");
        Check.due("stands in the document", true, sections.getOrDefault(section, "").contains(sentence));
        named.get(section).add(sentence);
        try {
            test.run();
        } catch (RuntimeException e) {
            Check.ended(e);
        }
        Check.about("");
    }

    /** Every sentence of the sections that tell what the class does has to have a test. */
    static void checkAllNamed() {
        Check.about("sentences without a test");
        for (Map.Entry<String, String> each : sections.entrySet()) {
            if (NOT_ASKED_SECTIONS.contains(each.getKey())) {
                continue;
            }
            List<String> tested = named.getOrDefault(each.getKey(), List.of());
            for (String sentence : sentencesOf(each.getValue())) {
                Check.due(each.getKey() + ": \"" + sentence + "\" has a test", true,
                        isTested(sentence, tested) || NOT_ASKED.stream().anyMatch(sentence::contains));
            }
        }
        Check.about("");
    }

    private static boolean isTested(String sentence, List<String> tested) {
        return tested.stream().anyMatch(each -> each.contains(sentence) || sentence.contains(each));
    }

    /** The sentences of a section; a line of a list, and what a promise throws, counts as one. */
    private static List<String> sentencesOf(String text) {
        List<String> sentences = new ArrayList<>();
        for (String line : text.split("\n")) {
            // A promise begins with the head of its method, which FaceTest asks for.
            String told = line.replaceFirst("^`[^`]*\\(.*?\\)[^`]*`: ", "");
            for (String sentence : told.split("(?<=[.]) (?=[A-Z%#&-])")) {
                if (!sentence.isBlank()) {
                    sentences.add(sentence.trim());
                }
            }
        }
        return sentences;
    }

    private static Map<String, String> read() {
        Map<String, String> found = new LinkedHashMap<>();
        String heading = "";
        try {
            for (String line : Files.readAllLines(DOCUMENT)) {
                if (line.startsWith("#") && line.contains(" ") && line.replace("#", "").startsWith(" ")) {
                    heading = line.replaceFirst("#+ ", "");
                } else {
                    found.merge(heading, line + "\n", String::concat);
                }
            }
        } catch (IOException e) {
            throw new UncheckedIOException(e);
        }
        return found;
    }
}
