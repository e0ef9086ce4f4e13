import java.io.IOException;
import java.lang.reflect.Array;
import java.lang.reflect.Field;
import java.lang.reflect.Modifier;
import java.nio.file.Files;
import java.nio.file.Path;
import java.util.Collections;
import java.util.IdentityHashMap;
import java.util.List;
import java.util.Set;
import java.util.regex.Matcher;
import java.util.regex.Pattern;

/** The rules of ../shared/LANGUAGE.md that can be seen from the text of the program or from an object of it. */
public final class LanguageTest {
    private static final Path PROGRAM = Path.of("src/main/java/ZlibBox.java");
    private static final String[] RULED_OUT = {
        "package ", "->", "::", "static {", "try {", "catch (", "finally", "synchronized", "assert ", "protected ",
        "instanceof", "getMessage", "getClass", "hashCode", "toString", "Exact(", "Thread", "Random", "nanoTime",
        "currentTimeMillis", "float ", "double ", "import static", "java.io", "java.net", "java.nio", "while (true)",
    };
    private static final Pattern LIBRARY = Pattern.compile("\\b(System|Arrays|Math|Integer|Long|Character|Byte)\\.(\\w+)");
    private static final Set<String> LIBRARY_USED = Set.of("System.arraycopy", "Arrays.fill", "Math.max", "Math.min");
    private static final Pattern THROWN = Pattern.compile("throw (.*)");
    private static final Pattern WRITTEN_THROW =
            Pattern.compile("new (UnsupportedOperation|IndexOutOfBounds|IllegalArgument)Exception\\(\"[^\"]*\"\\);");
    private static final Pattern MEMBER = Pattern.compile("(?: {4}| {8})((?:\\w+(?:\\[\\])* )*)(\\w+)\\((.*)\\) .*\\{");
    private static final Pattern MADE = Pattern.compile("\\bnew \\w+[\\[(<]|\\.clone\\(|\\.copyOf");
    private static final Set<String> CALLED_BY_CONSTRUCTORS = Set.of("makeFixedCodes");
    private static final int MOST_LINES = 60;
    private static final int MOST_PARAMETERS = 7;
    private static final int MOST_CLASSES = 12;
    private static final int MOST_FIELDS = 20;
    private static final int MOST_ELEMENTS = 70000;

    public static void main(String[] args) throws IOException, IllegalAccessException {
        List<String> lines = Files.readAllLines(PROGRAM);
        nothingIsUsedThatIsRuledOut(lines);
        throwsAreWrittenOut(lines);
        membersAreShort(lines);
        onlyConstructorsMakeRows(lines);
        classesAreFewAndSmall();
        staticFieldsAreFinal();
        callsMakeTheObjectNoLarger();
        Check.finish();
    }

    private static void nothingIsUsedThatIsRuledOut(List<String> lines) {
        for (String line : lines) {
            for (String word : RULED_OUT) {
                Check.isTrue("without " + word + ": " + line, !line.contains(word));
            }
            Check.isTrue(line, !line.startsWith("import ") || line.equals("import java.util.Arrays;"));
            Matcher library = LIBRARY.matcher(line);
            while (library.find()) {
                Check.isTrue("of the library: " + line, LIBRARY_USED.contains(library.group()));
            }
        }
    }

    private static void throwsAreWrittenOut(List<String> lines) {
        int thrown = 0;
        for (String line : lines) {
            Matcher found = THROWN.matcher(line);
            if (found.find()) {
                thrown++;
                Check.isTrue(line, WRITTEN_THROW.matcher(found.group(1)).matches());
            }
        }
        Check.isTrue("there are throws", thrown > 0);
    }

    /** A method or constructor ends with the brace that stands as far in as it begins. */
    private static void membersAreShort(List<String> lines) {
        int members = 0;
        for (int i = 0; i < lines.size(); i++) {
            Matcher member = MEMBER.matcher(lines.get(i));
            if (member.matches() && isMember(member)) {
                members++;
                int parameters = member.group(3).isEmpty() ? 0 : member.group(3).split(", ").length;
                Check.isTrue(member.group(2) + " has " + parameters + " parameters", parameters <= MOST_PARAMETERS);
                int length = endOf(lines, i) - i + 1;
                Check.isTrue(member.group(2) + " has " + length + " lines", length <= MOST_LINES);
            }
        }
        Check.isTrue(members + " methods and constructors are found", members > MOST_CLASSES);
    }

    private static boolean isMember(Matcher member) {
        return !Set.of("if", "for", "while", "switch").contains(member.group(2));
    }

    private static int endOf(List<String> lines, int begin) {
        int indent = lines.get(begin).indexOf(lines.get(begin).strip());
        String end = " ".repeat(indent) + "}";
        int i = begin;
        while (!lines.get(i).equals(end)) {
            i++;
        }
        return i;
    }

    /** All calls of a run share one room, so a call makes nothing but what it throws. */
    private static void onlyConstructorsMakeRows(List<String> lines) {
        String name = "";
        boolean constructor = false;
        int made = 0;
        for (String line : lines) {
            Matcher member = MEMBER.matcher(line);
            if (member.matches() && isMember(member)) {
                name = member.group(2);
                constructor = Character.isUpperCase(name.charAt(0)) || CALLED_BY_CONSTRUCTORS.contains(name);
            }
            if (MADE.matcher(line).find() && !line.contains("throw new ")) {
                made++;
                Check.isTrue(name + " makes nothing: " + line, constructor);
            }
        }
        Check.isTrue("constructors make rows", made > 0);
    }

    private static void classesAreFewAndSmall() {
        Class<?>[] inside = ZlibBox.class.getDeclaredClasses();
        Check.isTrue(inside.length + " classes inside", inside.length < MOST_CLASSES);
        fieldsAreFew(ZlibBox.class);
        for (Class<?> one : inside) {
            fieldsAreFew(one);
            Check.due("classes inside " + one, one.getDeclaredClasses().length, 0);
        }
    }

    private static void fieldsAreFew(Class<?> one) {
        int fields = 0;
        for (Field field : one.getDeclaredFields()) {
            fields += Modifier.isStatic(field.getModifiers()) ? 0 : 1;
        }
        Check.isTrue(one + " has " + fields + " fields", fields <= MOST_FIELDS);
    }

    private static void staticFieldsAreFinal() {
        fieldsAreFinal(ZlibBox.class);
        for (Class<?> one : ZlibBox.class.getDeclaredClasses()) {
            fieldsAreFinal(one);
        }
    }

    private static void fieldsAreFinal(Class<?> one) {
        for (Field field : one.getDeclaredFields()) {
            int modifiers = field.getModifiers();
            boolean right = Set.of(int.class, int[].class).contains(field.getType()) && Modifier.isFinal(modifiers);
            Check.isTrue(field + " is a constant", !Modifier.isStatic(modifiers) || right);
        }
    }

    private static void callsMakeTheObjectNoLarger() throws IllegalAccessException {
        ZlibBox box = new ZlibBox();
        long first = elements(box, Collections.newSetFromMap(new IdentityHashMap<>()));
        Check.isTrue(first + " fields and elements", first <= MOST_ELEMENTS);
        Boxes.load(box, Rows.pattern(Boxes.LIMIT));
        for (int i = 0; i < 60; i++) {
            box.pack();
            box.again();
            box.unpack();
            box.again();
        }
        Check.due("count(0) behind all this", box.count(0), Boxes.LIMIT);
        long last = elements(box, Collections.newSetFromMap(new IdentityHashMap<>()));
        Check.isTrue(last + " fields and elements at last", last <= first);
    }

    /** The fields and elements of all that can be reached from an object. */
    private static long elements(Object one, Set<Object> seen) throws IllegalAccessException {
        if (one == null || !seen.add(one)) {
            return 0;
        }
        if (one.getClass().isArray()) {
            return Array.getLength(one);
        }
        long elements = 0;
        for (Field field : one.getClass().getDeclaredFields()) {
            if (!Modifier.isStatic(field.getModifiers())) {
                elements++;
                field.setAccessible(true);
                elements += field.getType().isPrimitive() ? 0 : elements(field.get(one), seen);
            }
        }
        return elements;
    }
}
