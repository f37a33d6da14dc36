import java.io.IOException;
import java.lang.reflect.Constructor;
import java.lang.reflect.Field;
import java.lang.reflect.Method;
import java.lang.reflect.Modifier;
import java.nio.file.Files;
import java.nio.file.Path;
import java.util.Map;
import java.util.TreeMap;
import java.util.TreeSet;

/** The class has the public face of the document and nothing else that others can use. */
public final class FaceTest {
    private static final Path SOURCE = Path.of("src/main/java/ProgramSchool.java");
    private static final Path DOCUMENT = Path.of("../shared/DOC.md");
    private static final String CONSTANTS = "NONE=-1 NO_FAULT=0 SIGN=1 NUMBER=2 UNEXPECTED=3 NESTED=4 NAMES=5 DOUBLE=6"
            + " UNKNOWN=7 COUNT=8 DONE=0 FUEL=1 OVERFLOW=2 DIVISION=3 CELL=4 INPUT=5 OUTPUT=6 DEPTH=7";

    private static final String[] METHODS = {
        "int write(long) A", "int wipe()", "int erase(int) A", "int length()", "char signAt(int) I", "int fault()",
        "int faultPlace()", "int draftParts() S", "int trial(int,int,int) A S", "int trialByTree(int,int,int) A S",
        "int outputs()", "int outputAt(int) I", "int fuelLeft()", "int cellAt(int) I", "int addExercise(int,int) A S",
        "int addTest(int,int,int,int,int,int,int) I A S", "int withdraw(int,int) I S", "int pass(int) A S",
        "int today()", "int hand(int,int) I S", "int answers()", "boolean passes(int,int) I", "int endOf(int,int) I",
        "int points(int) I", "int mark(int) I", "int markAnew(int) I", "int best(int,int) I", "int passed(int,int) I",
        "int parts(int) I", "int common(int,int) I", "int likeness(int,int) I", "int accuse(int,int) I S",
        "int clear(int) I S", "int doubt(int) I"
    };

    public static void main(String[] args) throws IllegalAccessException, IOException {
        Class<?> school = ProgramSchool.class;
        checkLines();
        Check.due("modifiers of the class", Modifier.PUBLIC | Modifier.FINAL, school.getModifiers());
        checkConstants(school);
        checkMethods(school);
        Constructor<?>[] constructors = school.getDeclaredConstructors();
        Check.due("constructors", 1, constructors.length);
        Check.due("the constructor is public", true, Modifier.isPublic(constructors[0].getModifiers()));
        Check.due("arguments of the constructor", 0, constructors[0].getParameterCount());
        for (Class<?> inside : school.getDeclaredClasses()) {
            int modifiers = inside.getModifiers();
            Check.due(inside + " is not public", false, Modifier.isPublic(modifiers) || Modifier.isProtected(modifiers));
            Check.due(inside + " is static", true, Modifier.isStatic(modifiers));
        }
        Check.end("FaceTest");
    }

    /** The face stands in the source line by line as in the document. */
    private static void checkLines() throws IOException {
        if (!Files.exists(DOCUMENT)) {
            System.out.println("There is no " + DOCUMENT + ", so the lines of the face are not compared with it.");
            return;
        }
        String source = Files.readString(SOURCE);
        String document = Files.readString(DOCUMENT);
        int start = document.indexOf("public final class");
        int last = 0;
        for (String line : document.substring(start, document.indexOf("```", start)).split("\n")) {
            String due = line.endsWith(");") || line.endsWith("Exception;") ? line.substring(0, line.length() - 1) + " {" : line;
            int place = source.indexOf(due + "\n");
            Check.due("stands in the source, in the document's order: " + due, true, line.equals("}") || place > last);
            last = Math.max(last, place);
        }
    }

    private static void checkConstants(Class<?> school) throws IllegalAccessException {
        Map<String, String> found = new TreeMap<>();
        for (Field field : school.getDeclaredFields()) {
            if (!Modifier.isPrivate(field.getModifiers())) {
                Check.due(field.getName() + " is a public constant", Modifier.PUBLIC | Modifier.STATIC | Modifier.FINAL, field.getModifiers());
                found.put(field.getName(), field.getName() + "=" + field.getInt(null));
            }
        }
        Check.due("constants", new TreeSet<>(java.util.List.of(CONSTANTS.split(" "))).toString(), new TreeSet<>(found.values()).toString());
    }

    private static void checkMethods(Class<?> school) {
        TreeSet<String> found = new TreeSet<>();
        TreeSet<String> publicNames = new TreeSet<>();
        TreeSet<String> privateNames = new TreeSet<>();
        for (Method method : school.getDeclaredMethods()) {
            if (Modifier.isPrivate(method.getModifiers())) {
                privateNames.add(method.getName());
            } else {
                Check.due(method.getName() + " is public only", Modifier.PUBLIC, method.getModifiers());
                found.add(signature(method));
                publicNames.add(method.getName());
            }
        }
        Check.due("methods", new TreeSet<>(java.util.List.of(METHODS)).toString(), found.toString());
        for (Class<?> inside : school.getDeclaredClasses()) {
            for (Method method : inside.getDeclaredMethods()) {
                if (Modifier.isPrivate(method.getModifiers())) {
                    privateNames.add(method.getName());
                }
            }
        }
        privateNames.retainAll(publicNames);
        Check.due("private methods with a public name", "[]", privateNames.toString());
    }

    private static String signature(Method method) {
        StringBuilder text = new StringBuilder(method.getReturnType().getName()).append(' ').append(method.getName()).append('(');
        for (Class<?> type : method.getParameterTypes()) {
            text.append(text.charAt(text.length() - 1) == '(' ? "" : ",").append(type.getName());
        }
        text.append(')');
        for (Class<?> thrown : method.getExceptionTypes()) {
            String name = thrown.getSimpleName();
            text.append(name.equals("IndexOutOfBoundsException") ? " I" : name.equals("IllegalArgumentException") ? " A" : name.equals("IllegalStateException") ? " S" : " ?");
        }
        return text.toString();
    }
}
