import java.lang.reflect.Constructor;
import java.lang.reflect.Field;
import java.lang.reflect.Method;
import java.lang.reflect.Modifier;
import java.util.Arrays;
import java.util.Set;
import java.util.TreeSet;
import java.util.stream.Collectors;

/** The public face of the document, all of it and nothing else, and what the language rules say of it. */
final class FaceTest {
    private static final Set<String> FACE = Set.of(
        "public int quota(int, int, int)",
        "public boolean member(int, int)",
        "public boolean corrupt(int)",
        "public int propose(int, int, int)",
        "public boolean deliver(int, int)",
        "public boolean say(int, int, int, int)",
        "public int voted(int)",
        "public int accepted(int)",
        "public int confirmed(int)",
        "public int counter(int)",
        "public int value(int)",
        "public int decided(int)",
        "public int known(int, int, boolean)",
        "public boolean quorum(int)",
        "public int largest(int)",
        "public boolean blocks(int, int)",
        "public boolean intertwined(int, int)");
    private static final Answers answers = new Answers();

    public static void main(String[] args) {
        theClass();
        theConstant();
        theConstructor();
        theMethods();
        noPrivateMethodBearsAPublicName();
        classesInsideAreStaticAndNotPublic();
        staticFieldsAreFinal();
        answers.end();
    }

    private static boolean isSeen(int modifiers) {
        return !Modifier.isPrivate(modifiers);
    }

    private static String types(Class<?>[] parameters) {
        return Arrays.stream(parameters).map(Class::getName).collect(Collectors.joining(", ", "(", ")"));
    }

    private static String signature(Method m) {
        String modifiers = Modifier.toString(m.getModifiers());
        return modifiers + " " + m.getReturnType().getName() + " " + m.getName() + types(m.getParameterTypes());
    }

    private static void theClass() {
        answers.about("The public face: public final class SliceVoting");
        int modifiers = SliceVoting.class.getModifiers();
        answers.due("public", Modifier.isPublic(modifiers), true);
        answers.due("final", Modifier.isFinal(modifiers), true);
        answers.due("no package", SliceVoting.class.getPackageName().isEmpty(), true);
        answers.due("of no other class", SliceVoting.class.getSuperclass() == Object.class, true);
        answers.due("of no interface", SliceVoting.class.getInterfaces().length, 0);
    }

    private static void theConstant() {
        answers.about("The public face: public static final int NONE = -1");
        answers.due("NONE", SliceVoting.NONE, -1);
        for (Field f : SliceVoting.class.getDeclaredFields()) {
            if (isSeen(f.getModifiers())) {
                String field = Modifier.toString(f.getModifiers()) + " " + f.getType().getName() + " " + f.getName();
                answers.due(field + " is of the face", field.equals("public static final int NONE"), true);
            }
        }
    }

    private static void theConstructor() {
        answers.about("The public face: public SliceVoting(int nodes)");
        int seen = 0;
        for (Constructor<?> c : SliceVoting.class.getDeclaredConstructors()) {
            if (isSeen(c.getModifiers())) {
                seen++;
                answers.due("public", Modifier.isPublic(c.getModifiers()), true);
                answers.due(types(c.getParameterTypes()), types(c.getParameterTypes()).equals("(int)"), true);
                answers.due("throws nothing", c.getExceptionTypes().length, 0);
            }
        }
        answers.due("constructors that are seen", seen, 1);
    }

    private static void theMethods() {
        answers.about("The public face: the methods");
        Set<String> missing = new TreeSet<>(FACE);
        for (Method m : SliceVoting.class.getDeclaredMethods()) {
            if (isSeen(m.getModifiers())) {
                answers.due(signature(m) + " is of the face", missing.remove(signature(m)), true);
                answers.due(signature(m) + " throws", m.getExceptionTypes().length, 0);
            }
        }
        answers.due("missing are " + missing, missing.size(), 0);
    }

    private static void noPrivateMethodBearsAPublicName() {
        answers.about("Language 1: No private method bears the name of a public one");
        Set<String> names = new TreeSet<>();
        for (Method m : SliceVoting.class.getDeclaredMethods()) {
            if (isSeen(m.getModifiers())) {
                names.add(m.getName());
            }
        }
        for (Method m : SliceVoting.class.getDeclaredMethods()) {
            if (!isSeen(m.getModifiers())) {
                answers.due(m.getName() + " is a public name", names.contains(m.getName()), false);
            }
        }
    }

    private static void classesInsideAreStaticAndNotPublic() {
        answers.about("Language 1 and 2: the classes inside are private or package-visible and static");
        for (Class<?> inside : SliceVoting.class.getDeclaredClasses()) {
            int modifiers = inside.getModifiers();
            answers.due(inside + " is static", Modifier.isStatic(modifiers), true);
            answers.due(inside + " is public", Modifier.isPublic(modifiers), false);
            answers.due(inside + " is protected", Modifier.isProtected(modifiers), false);
        }
    }

    private static void staticFieldsAreFinal() {
        answers.about("Language 5: Static fields are final");
        for (Field f : SliceVoting.class.getDeclaredFields()) {
            if (Modifier.isStatic(f.getModifiers())) {
                answers.due(f.getName() + " is final", Modifier.isFinal(f.getModifiers()), true);
            }
        }
    }
}
