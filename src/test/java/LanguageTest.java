import java.io.IOException;
import java.nio.file.Files;
import java.nio.file.Path;
import java.util.List;
import java.util.Set;
import java.util.TreeSet;
import java.util.regex.Matcher;
import java.util.regex.Pattern;

/** Rules of LANGUAGE.md that the text of the program shows: it is run in the project's folder. */
public final class LanguageTest {
    private static final String SOURCE = "src/main/java/ProgramSchool.java";
    private static final Set<String> IMPORTS = Set.of("import java.util.ArrayList;", "import java.util.List;",
            "import java.util.Arrays;", "import java.util.Iterator;", "import java.util.NoSuchElementException;");
    // Rules 1, 2, 4, 6, 9 and 13, as patterns.
    private static final List<String> NOT_THERE = List.of("\\bpackage ", "\\bprotected ", "::", "\\bfinally\\b", "\\bsynchronized\\b",
            "\\bassert\\b", "Exact\\(", "\\bSystem\\.(?!arraycopy)", "\\bRandom\\b", "\\bThread\\b", "\\b\\w*Map\\b", "\\bObject\\b",
            "\\bstatic \\{", "\\.getMessage\\b", "\\.hashCode\\b", "\\bString\\.", "\\bvolatile\\b", "\\bnative\\b", "while \\(true\\)", "for \\(;;\\)",
            "\\bThrowable\\b", "(?<!Runtime|IllegalState|IllegalArgument|IndexOutOfBounds|Arithmetic|UnsupportedOperation|NoSuchElement)Exception\\b");

    public static void main(String[] args) throws IOException {
        String source = Files.readString(Path.of(SOURCE));
        String code = source.replaceAll("(?s)/\\*.*?\\*/", "").replaceAll("//[^\n]*", "").replaceAll("\"[^\"]*\"", "\"\"");
        for (String line : code.split("\n")) {
            Check.due("import is on the list: " + line, true, !line.startsWith("import ") || IMPORTS.contains(line));
        }
        for (String pattern : NOT_THERE) {
            Check.due("'" + pattern + "' stands in the program", false, Pattern.compile(pattern).matcher(code).find());
        }
        for (int i = 0; i < source.length(); i++) {
            Check.due("a sign of the source is from 1 to 127", true, source.charAt(i) > 0 && source.charAt(i) < 128);
        }
        Check.due("texts joined by +", false, Pattern.compile("\"\\s*\\+|\\+\\s*\"").matcher(code).find());
        thrown(code);
        classes(code);
        methods(code);
        Check.end("LanguageTest");
    }

    private static void thrown(String code) {
        Matcher thrown = Pattern.compile("throw ([^;]*);").matcher(code);
        while (thrown.find()) {
            Check.due("throw " + thrown.group(1), true, thrown.group(1)
                    .matches("new (IllegalState|IllegalArgument|IndexOutOfBounds|Arithmetic|UnsupportedOperation|NoSuchElement|Runtime)Exception\\((\"\")?\\)"));
        }
    }

    private static void classes(String code) {
        Matcher inside = Pattern.compile("\\b(class|record|enum|interface) \\w+").matcher(code);
        int classes = 0;
        while (inside.find()) {
            classes++;
        }
        Check.due("at most twelve classes", true, classes <= 12);
        String[] parts = code.split("\\bclass ");
        for (int i = 1; i < parts.length; i++) {
            TreeSet<String> fields = new TreeSet<>();
            String indent = i == 1 ? "    " : "        ";
            Matcher field = Pattern.compile("(?m)^" + indent + "(?:private |final )*[A-Z]?\\w+(?:<\\w+>|\\[\\])? (\\w+)(?: =[^;]*)?;").matcher(parts[i]);
            while (field.find()) {
                if (!field.group().contains("static") && !field.group().contains("return ")) {
                    fields.add(field.group(1));
                }
            }
            Check.due("at most twenty fields: " + fields, true, fields.size() <= 20);
        }
    }

    private static void methods(String code) {
        String[] lines = code.split("\n");
        int methods = 0;
        for (int i = 0; i < lines.length; i++) {
            Matcher head = Pattern.compile("^( {4}| {8})(?!return |new |else |throw )(?:[\\w<>\\[\\]]+ )*\\w+\\(([^)]*)\\)[^;]*\\{$").matcher(lines[i]);
            if (!head.matches() || lines[i].trim().startsWith("if ") || lines[i].trim().startsWith("for ")) {
                continue;
            }
            int end = i;
            while (end < lines.length && !lines[end].equals(head.group(1) + "}")) {
                end++;
            }
            methods++;
            Check.due("at most sixty lines: " + lines[i].trim(), true, end - i < 60);
            Check.due("at most seven parameters: " + lines[i].trim(), true, head.group(2).split(",").length <= 7);
        }
        Check.due("methods were found", true, methods > 0);
    }
}
