import java.lang.reflect.Constructor;
import java.lang.reflect.Field;
import java.lang.reflect.Method;
import java.lang.reflect.Modifier;
import java.util.Arrays;
import java.util.Set;
import java.util.TreeSet;

/** The public face has what the document says, and nothing else of the class can be seen. */
public final class FaceTest {
    private static final String[] FACE = {
        "public int ZlibBox.adler()",
        "public int ZlibBox.again()",
        "public int ZlibBox.count(int) throws java.lang.IllegalArgumentException",
        "public int ZlibBox.end(int) throws java.lang.IllegalArgumentException",
        "public int ZlibBox.feed(int,int,int,int,int) throws java.lang.IndexOutOfBoundsException",
        "public int ZlibBox.pack() throws java.lang.IndexOutOfBoundsException",
        "public int ZlibBox.unpack() throws java.lang.UnsupportedOperationException,java.lang.IndexOutOfBoundsException",
        "public long ZlibBox.word(int) throws java.lang.IndexOutOfBoundsException",
    };

    public static void main(String[] args) {
        theClassAndItsConstructor();
        theEightMethods();
        nothingElseIsSeen();
        noOtherMethodBearsAPublicName();
        Check.finish();
    }

    private static void theClassAndItsConstructor() {
        Check.isTrue("the class", Modifier.toString(ZlibBox.class.getModifiers()).equals("public final"));
        Constructor<?>[] constructors = ZlibBox.class.getDeclaredConstructors();
        Check.due("how many constructors", constructors.length, 1);
        Check.isTrue("the constructor", constructors[0].toString().equals("public ZlibBox()"));
    }

    private static void theEightMethods() {
        Set<String> seen = new TreeSet<>();
        for (Method method : ZlibBox.class.getDeclaredMethods()) {
            if (!Modifier.isPrivate(method.getModifiers())) {
                seen.add(method.toString());
            }
        }
        Check.isTrue("the methods are " + seen, seen.equals(new TreeSet<>(Arrays.asList(FACE))));
    }

    private static void nothingElseIsSeen() {
        for (Field field : ZlibBox.class.getDeclaredFields()) {
            Check.isTrue(field + " is private", Modifier.isPrivate(field.getModifiers()));
        }
        for (Class<?> inside : ZlibBox.class.getDeclaredClasses()) {
            int modifiers = inside.getModifiers();
            Check.isTrue(inside + " is static", Modifier.isStatic(modifiers));
            Check.isTrue(inside + " is hidden", !Modifier.isPublic(modifiers) && !Modifier.isProtected(modifiers));
        }
    }

    private static void noOtherMethodBearsAPublicName() {
        Set<String> names = new TreeSet<>();
        for (Method method : ZlibBox.class.getDeclaredMethods()) {
            if (Modifier.isPublic(method.getModifiers())) {
                names.add(method.getName());
            }
        }
        for (Method method : ZlibBox.class.getDeclaredMethods()) {
            boolean other = !Modifier.isPublic(method.getModifiers());
            Check.isTrue(method + " has a name of its own", !other || !names.contains(method.getName()));
        }
        for (Class<?> inside : ZlibBox.class.getDeclaredClasses()) {
            for (Method method : inside.getDeclaredMethods()) {
                Check.isTrue(method + " has a name of its own", !names.contains(method.getName()));
            }
        }
    }
}
