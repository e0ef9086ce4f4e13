import java.io.IOException;
import java.lang.reflect.InvocationTargetException;
import java.lang.reflect.Method;
import java.nio.file.Files;
import java.nio.file.Path;
import java.util.ArrayList;
import java.util.List;
import java.util.Set;
import java.util.TreeSet;
import java.util.regex.Matcher;
import java.util.regex.Pattern;

/** README.md shows calls: what it says of their answers is what the program answers. */
public final class ReadmeTest {
    private static final Path README = Path.of("README.md");
    private static final Path TABLE = Path.of("src/test/README.md");
    private static final String NEW_BOX = "ZlibBox box = new ZlibBox();";
    private static final Pattern SHOWN_CALL =
            Pattern.compile("box\\.(\\w+)\\((.*)\\); +// (answers|throws) (\\w+)(: .*)?");
    private static final Pattern ROW_OF_CALLS = Pattern.compile("\\| `(\\w+)\\((.*)\\)` \\|.*\\|(.*)\\|");
    private static final Pattern EXCEPTION = Pattern.compile("`(\\w+Exception)`");
    private static final Pattern NAMED_TEST = Pattern.compile("(\\w+Test): ([\\w, ]+)");

    public static void main(String[] args) throws IOException, ReflectiveOperationException {
        shownCallsAnswerSo();
        theTableHasTheWholeFace();
        namedTestsAreThere();
        Check.finish();
    }

    /** Every line of Java counts, so that none is shown that this test does not look at. */
    private static void shownCallsAnswerSo() throws IOException, ReflectiveOperationException {
        ZlibBox box = new ZlibBox();
        Set<String> called = new TreeSet<>();
        for (String line : linesOfJava()) {
            Matcher shown = SHOWN_CALL.matcher(line);
            if (line.equals(NEW_BOX)) {
                box = new ZlibBox();
            } else if (shown.matches()) {
                called.add(shown.group(1));
                String told = shown.group(4);
                String due = shown.group(3).equals("throws") ? told : String.valueOf(number(told));
                String got = answerOf(box, shown.group(1), shown.group(2));
                Check.isTrue(line + " but the answer is " + got, got.equals(due));
            } else {
                Check.isTrue("not a shown call: " + line, false);
            }
        }
        Check.due("calls of the face that are shown: " + called, called.size(), face().size());
    }

    private static List<String> linesOfJava() throws IOException {
        List<String> lines = new ArrayList<>();
        boolean inside = false;
        for (String line : Files.readAllLines(README)) {
            if (line.startsWith("```")) {
                inside = line.equals("```java");
            } else if (inside && !line.isBlank()) {
                lines.add(line.strip());
            }
        }
        return lines;
    }

    private static String answerOf(ZlibBox box, String name, String arguments) throws ReflectiveOperationException {
        try {
            return String.valueOf(face(name).invoke(box, ints(arguments)));
        } catch (InvocationTargetException e) {
            return e.getCause().getClass().getSimpleName();
        }
    }

    private static Object[] ints(String arguments) {
        List<Object> ints = new ArrayList<>();
        for (String argument : arguments.isEmpty() ? new String[0] : arguments.split(", ")) {
            ints.add((int) number(argument));
        }
        return ints.toArray();
    }

    /** A number as Java has it: those in hex, of 8 digits without L, may be negative ints. */
    private static long number(String text) {
        boolean isLong = text.endsWith("L");
        String digits = isLong ? text.substring(0, text.length() - 1) : text;
        if (!digits.startsWith("0x")) {
            return Long.parseLong(digits);
        }
        long number = Long.parseUnsignedLong(digits.substring(2), 16);
        return isLong ? number : (int) number;
    }

    private static List<Method> face() {
        List<Method> face = new ArrayList<>();
        for (Method method : ZlibBox.class.getDeclaredMethods()) {
            if (java.lang.reflect.Modifier.isPublic(method.getModifiers())) {
                face.add(method);
            }
        }
        return face;
    }

    private static Method face(String name) throws NoSuchMethodException {
        for (Method method : face()) {
            if (method.getName().equals(name)) {
                return method;
            }
        }
        throw new NoSuchMethodException(name);
    }

    private static void theTableHasTheWholeFace() throws IOException, ReflectiveOperationException {
        int rows = 0;
        for (String line : Files.readAllLines(README)) {
            Matcher row = ROW_OF_CALLS.matcher(line);
            if (!row.matches()) {
                continue;
            }
            rows++;
            Method method = face(row.group(1));
            int arguments = row.group(2).isEmpty() ? 0 : row.group(2).split(", ").length;
            Check.due("arguments of " + row.group(1), arguments, method.getParameterCount());
            Set<String> told = new TreeSet<>();
            EXCEPTION.matcher(row.group(3)).results().forEach(found -> told.add(found.group(1)));
            Set<String> declared = new TreeSet<>();
            for (Class<?> exception : method.getExceptionTypes()) {
                declared.add(exception.getSimpleName());
            }
            Check.isTrue(row.group(1) + " throws " + declared + ", told is " + told, told.equals(declared));
        }
        Check.due("calls in the table", rows, face().size());
    }

    /** The table of sentences names tests: each is there, and each test's class is named. */
    private static void namedTestsAreThere() throws IOException, ReflectiveOperationException {
        Set<String> named = new TreeSet<>();
        Matcher test = NAMED_TEST.matcher(Files.readString(TABLE));
        while (test.find()) {
            named.add(test.group(1));
            Set<String> methods = new TreeSet<>();
            for (Method method : Class.forName(test.group(1)).getDeclaredMethods()) {
                methods.add(method.getName());
            }
            for (String name : test.group(2).strip().split(", ")) {
                Check.isTrue(test.group(1) + " has " + name, name.equals("all") || methods.contains(name));
            }
        }
        for (String name : classesOfTests()) {
            Check.isTrue(name + " is named in " + TABLE, named.contains(name));
        }
    }

    private static List<String> classesOfTests() {
        List<String> names = new ArrayList<>();
        for (String name : Path.of("src/test/java").toFile().list()) {
            if (name.endsWith("Test.java")) {
                names.add(name.substring(0, name.length() - ".java".length()));
            }
        }
        return names;
    }
}
