import java.io.File;
import java.io.IOException;
import java.lang.reflect.Field;
import java.lang.reflect.Method;
import java.lang.reflect.Modifier;
import java.nio.file.DirectoryStream;
import java.nio.file.Files;
import java.nio.file.Path;
import java.util.TreeSet;
import java.util.regex.Matcher;
import java.util.regex.Pattern;
import javax.tools.JavaCompiler;
import javax.tools.ToolProvider;

/** README.md: its examples answer what stands behind them, and it names each call and each test. */
public final class ReadmeTest {
    private static final Pattern BLOCK = Pattern.compile("(?s)```java\n(.*?)```");
    // A call, perhaps with a variable that keeps its answer, and the answer: "int end = .. ; // DONE, as told".
    private static final Pattern CALL = Pattern.compile("(?:(\\w+) (\\w+) = )?(.*?);\\s*// ([^,]*)(?:,.*)?");
    private static final String EXAMPLE = "ReadmeExample";

    public static void main(String[] args) throws IOException, ReflectiveOperationException {
        String readme = Files.readString(Path.of("README.md"));
        callsAreNamed(readme);
        testsAreNamed(readme);
        runExample(example(readme));
        Check.end("ReadmeTest");
    }

    private static void callsAreNamed(String readme) {
        for (Method method : ProgramSchool.class.getDeclaredMethods()) {
            if (Modifier.isPublic(method.getModifiers())) {
                Check.due("README.md shows " + method.getName(), true, readme.contains("school." + method.getName() + "("));
            }
        }
    }

    private static void testsAreNamed(String readme) throws IOException {
        TreeSet<String> there = new TreeSet<>();
        try (DirectoryStream<Path> files = Files.newDirectoryStream(Path.of("src/test/java"), "*Test.java")) {
            for (Path file : files) {
                there.add(file.getFileName().toString().replace(".java", ""));
            }
        }
        TreeSet<String> named = new TreeSet<>();
        Matcher row = Pattern.compile("(?m)^\\| `(\\w+)` \\|").matcher(readme);
        while (row.find()) {
            named.add(row.group(1));
        }
        Check.due("tests in the table", there.toString(), named.toString());
    }

    /** A class with the examples, in which each answer is checked. */
    private static String example(String readme) {
        StringBuilder methods = new StringBuilder();
        StringBuilder calls = new StringBuilder();
        Matcher block = BLOCK.matcher(readme);
        while (block.find()) {
            if (block.group(1).startsWith("static ")) {
                methods.append(block.group(1));
            } else {
                for (String line : block.group(1).split("\n")) {
                    calls.append(checked(line)).append('\n');
                }
            }
        }
        String constants = "";
        for (Field field : ProgramSchool.class.getFields()) {
            constants += "static final int " + field.getName() + " = ProgramSchool." + field.getName() + ";\n";
        }
        return "public final class " + EXAMPLE + " {\n" + constants + methods + "public static void run() {\n" + calls + "}\n}\n";
    }

    private static String checked(String line) {
        Matcher call = CALL.matcher(line);
        if (!call.matches()) {
            Check.due("has an answer behind it: " + line, false, line.contains("//"));
            return line;
        }
        String due = "Check.due(\"" + call.group(3).replace("\"", "\\\"") + "\", \"\" + (" + call.group(4) + "), \"\" + (";
        return call.group(1) == null ? due + call.group(3) + "));"
                : call.group(1) + " " + call.group(2) + " = " + call.group(3) + ";\n" + due + call.group(2) + "));";
    }

    private static void runExample(String source) throws IOException, ReflectiveOperationException {
        JavaCompiler compiler = ToolProvider.getSystemJavaCompiler();
        if (compiler == null) {
            System.out.println("This Java has no compiler in it, so the examples are not run.");
            return;
        }
        // Beside the other classes, so that it is of their package.
        String classes = System.getProperty("java.class.path").split(File.pathSeparator)[0];
        Path folder = Files.createTempDirectory("readme");
        Path file = folder.resolve(EXAMPLE + ".java");
        Files.writeString(file, source);
        int failed = compiler.run(null, null, null, "-cp", classes, "-d", classes, file.toString());
        Check.due("the examples compile", 0, failed);
        if (failed == 0) {
            Class.forName(EXAMPLE).getMethod("run").invoke(null);
        }
        Files.delete(file);
        Files.delete(folder);
    }
}
