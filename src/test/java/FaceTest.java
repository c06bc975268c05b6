import java.lang.reflect.Constructor;
import java.lang.reflect.Field;
import java.lang.reflect.Method;
import java.lang.reflect.Modifier;
import java.util.Arrays;
import java.util.Set;
import java.util.TreeSet;
import java.util.stream.Collectors;

/** The document's public face, and rule 1 of LANGUAGE.md: it and nothing more can be seen. */
public final class FaceTest {
    private static final Check CHECK = new Check("Face");
    private static final String BOTH = " throws IllegalArgumentException, IllegalStateException";
    private static final Set<String> FACE = Set.of(
            "int transfer(int, int, int, int)" + BOTH,
            "boolean begin()",
            "int run(int) throws IllegalArgumentException",
            "boolean deliver(int)",
            "int forge(int, int, long, int)" + BOTH,
            "int whisper(int, int, int)" + BOTH,
            "int message(int, int)",
            "int vertex(int, int)",
            "long weak(int)",
            "int node(int, int)",
            "int graph(int, int)",
            "int ordered(int, int)");

    public static void main(String[] args) {
        Class<?> face = WaveLedger.class;
        CHECK.due("public final class", Modifier.PUBLIC | Modifier.FINAL, face.getModifiers());
        Set<String> seen = new TreeSet<>();
        Set<String> names = new TreeSet<>();
        for (Method method : face.getDeclaredMethods()) {
            if (!Modifier.isPrivate(method.getModifiers())) {
                CHECK.due(method.getName() + " is public alone", Modifier.PUBLIC, method.getModifiers());
                seen.add(written(method));
                names.add(method.getName());
            }
        }
        CHECK.due("methods", new TreeSet<>(FACE).toString(), seen.toString());
        for (Method method : face.getDeclaredMethods()) {
            if (Modifier.isPrivate(method.getModifiers())) {
                CHECK.due("a face name is private: " + method.getName(), false, names.contains(method.getName()));
            }
        }
        constructor(face);
        fields(face);
        classesInside(face);
        CHECK.end();
    }

    private static String simple(Class<?>[] types) {
        return Arrays.stream(types).map(Class::getSimpleName).collect(Collectors.joining(", "));
    }

    private static String written(Method method) {
        String thrown = simple(method.getExceptionTypes());
        return method.getReturnType().getSimpleName() + " " + method.getName()
                + "(" + simple(method.getParameterTypes()) + ")" + (thrown.isEmpty() ? "" : " throws " + thrown);
    }

    private static void constructor(Class<?> face) {
        Constructor<?>[] all = face.getDeclaredConstructors();
        CHECK.due("constructors", 1, all.length);
        CHECK.due("constructor", "int, int, int", simple(all[0].getParameterTypes()));
        CHECK.due("constructor is public", Modifier.PUBLIC, all[0].getModifiers());
    }

    private static void fields(Class<?> face) {
        for (Field field : face.getDeclaredFields()) {
            int modifiers = field.getModifiers();
            CHECK.due(field.getName() + " is private", true, Modifier.isPrivate(modifiers));
            CHECK.due(field.getName() + " is final if static", true,
                    !Modifier.isStatic(modifiers) || Modifier.isFinal(modifiers));
        }
    }

    private static void classesInside(Class<?> face) {
        for (Class<?> inside : face.getDeclaredClasses()) {
            int modifiers = inside.getModifiers();
            CHECK.due(inside.getSimpleName() + " is static", true, Modifier.isStatic(modifiers));
            CHECK.due(inside.getSimpleName() + " is hidden", false,
                    Modifier.isPublic(modifiers) || Modifier.isProtected(modifiers));
            CHECK.due(inside.getSimpleName() + " has few fields", true, inside.getDeclaredFields().length <= 20);
        }
    }
}
