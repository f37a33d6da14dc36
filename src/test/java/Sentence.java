import java.io.IOException;
import java.io.UncheckedIOException;
import java.nio.file.Files;
import java.nio.file.Path;
import java.util.ArrayList;
import java.util.Comparator;
import java.util.LinkedHashMap;
import java.util.List;
import java.util.Map;

/**
 * Tests of single sentences of the document. Each names the section and the sentence that it is for,
 * as they stand in the document, so that none is left behind when the document changes.
 */
final class Sentence {
    private static final Path DOCUMENT = Path.of("../shared/DOC.md");
    // What nothing can be asked about: beginnings of sentences, and the rest of one.
    private static final List<String> NOT_ASKED = List.of("A school of programs: ", "Ahead of the calls", "; what later calls answer is free.");
    private static final List<String> NOT_ASKED_SECTIONS = List.of("The public face", "Not promised");

    private static final Map<String, String> sections = read();
    private static final Map<String, List<String>> named = new LinkedHashMap<>();
    private static String section = "";

    private Sentence() {
    }

    /** The sentences that follow stand in a section, which is told by its heading. */
    static void section(String heading) {
        section = heading;
        Check.about(heading);
        Check.due("the document has the section", true, sections.containsKey(heading) || sections.isEmpty());
        named.putIfAbsent(heading, new ArrayList<>());
    }

    static void holds(String sentence, Runnable test) {
        Check.about(section + ": \"" + sentence + "\"");
        Check.due("stands in the document", true, sections.getOrDefault(section, "").contains(sentence) || sections.isEmpty());
        named.get(section).add(sentence);
        try {
            test.run();
        } catch (RuntimeException e) {
            Check.ended(e);
        }
        Check.about("");
    }

    /** All that the sections tell of the class has to be named by tests, be it bit by bit. */
    static void checkAllNamed() {
        for (Map.Entry<String, String> each : sections.entrySet()) {
            if (NOT_ASKED_SECTIONS.contains(each.getKey())) {
                continue;
            }
            Check.about(each.getKey() + ": what no test names");
            for (String line : each.getValue().split("\n")) {
                if (NOT_ASKED.stream().noneMatch(line::startsWith)) {
                    Check.due("a line", "", withoutNamed(line, named.getOrDefault(each.getKey(), List.of())));
                }
            }
        }
        Check.about("");
    }

    private static String withoutNamed(String line, List<String> sentences) {
        // A promise begins with the head of its method, which FaceTest asks for.
        String rest = line.replaceFirst("^`[^`]*\\(.*?\\)[^`]*`: ", "");
        List<String> longestFirst = new ArrayList<>(sentences);
        longestFirst.addAll(NOT_ASKED);
        longestFirst.sort(Comparator.comparing(String::length).reversed());
        for (String sentence : longestFirst) {
            rest = rest.replace(sentence, "");
        }
        return rest.trim();
    }

    private static Map<String, String> read() {
        Map<String, String> found = new LinkedHashMap<>();
        if (!Files.exists(DOCUMENT)) {
            System.out.println("There is no " + DOCUMENT + ", so it is not asked whether the sentences stand in it.");
            return found;
        }
        String heading = "";
        try {
            for (String line : Files.readAllLines(DOCUMENT)) {
                if (line.startsWith("#") && line.contains(" ") && line.replace("#", "").startsWith(" ")) {
                    heading = line.replaceFirst("#+ ", "");
                } else {
                    found.merge(heading, line + "\n", String::concat);
                }
            }
        } catch (IOException e) {
            throw new UncheckedIOException(e);
        }
        return found;
    }
}
