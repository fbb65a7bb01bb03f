import java.lang.reflect.Constructor;
import java.lang.reflect.Field;
import java.lang.reflect.Method;
import java.lang.reflect.Modifier;
import java.util.Arrays;
import java.util.Set;
import java.util.TreeSet;

/** The public face, and that the class has nothing else that can be seen from outside. */
public final class FaceTest {
    private static final String[] FACE = {
        "boolean type(long,int)", "boolean put(long,int)", "boolean hall(int,long,int)",
        "int compile() throws java.lang.IllegalArgumentException", "int load() throws java.lang.IllegalArgumentException",
        "int fault(int)", "int code(int)", "int deal(int,int) throws java.lang.IllegalArgumentException", "boolean give(int,long)",
        "boolean begin()", "boolean tamper(int,int,int,long)",
        "int step(int) throws java.lang.IndexOutOfBoundsException,java.lang.IllegalStateException", "boolean deliver(int,int)",
        "int run(int) throws java.lang.IllegalArgumentException", "int party(int,int)",
        "long output(int,int) throws java.util.NoSuchElementException", "long clear(int,int) throws java.util.NoSuchElementException",
        "int bound(int,int,int) throws java.util.NoSuchElementException", "int total(int)"
    };

    public static void main(String[] args) {
        Edge.of("public final class ShareHall {", FaceTest::theClass);
        Edge.of("public static final int NONE = -1;", FaceTest::fields);
        Edge.of("public boolean type(long word, int n);", FaceTest::methods);
        Edge.of("public ShareHall();", FaceTest::constructors);
        Edge.end();
    }

    private static void theClass() {
        int modifiers = ShareHall.class.getModifiers();
        Desk.same("public and final", Modifier.isPublic(modifiers) && Modifier.isFinal(modifiers), true);
        for (Class<?> inner : ShareHall.class.getDeclaredClasses()) {
            Desk.same(inner + " is static", Modifier.isStatic(inner.getModifiers()), true);
            Desk.same(inner + " is public", Modifier.isPublic(inner.getModifiers()), false);
        }
    }

    private static void fields() {
        for (Field field : ShareHall.class.getDeclaredFields()) {
            boolean isPrivate = Modifier.isPrivate(field.getModifiers());
            Desk.same(field + " is private", isPrivate, !field.getName().equals("NONE"));
        }
    }

    private static void methods() {
        Set<String> seen = new TreeSet<>();
        Set<String> names = new TreeSet<>();
        for (Method method : ShareHall.class.getDeclaredMethods()) {
            if (!Modifier.isPrivate(method.getModifiers()) && !method.isSynthetic()) {
                seen.add(method.toString().replaceFirst("^public ", "").replace("ShareHall.", ""));
                names.add(method.getName());
            }
        }
        Desk.same("what can be called", seen, new TreeSet<>(Arrays.asList(FACE)));
        for (Method method : ShareHall.class.getDeclaredMethods()) {
            Desk.same(method + " is private with a public one's name",
                Modifier.isPrivate(method.getModifiers()) && names.contains(method.getName()), false);
        }
        for (Class<?> inner : ShareHall.class.getDeclaredClasses()) {
            for (Method method : inner.getDeclaredMethods()) {
                Desk.same(method + " has a public one's name", names.contains(method.getName()), false);
            }
        }
    }

    private static void constructors() {
        Constructor<?>[] all = ShareHall.class.getDeclaredConstructors();
        Desk.same("constructors", all.length, 1);
        Desk.same("the constructor", all[0].toString(), "public ShareHall()");
    }
}
