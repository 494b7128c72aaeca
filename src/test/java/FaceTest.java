import java.lang.reflect.Constructor;
import java.lang.reflect.Field;
import java.lang.reflect.Method;
import java.lang.reflect.Modifier;
import java.util.Set;
import java.util.TreeSet;

/** The public face, as the document writes it, and nothing beside it. */
public final class FaceTest {
    private static final String INDEX = "IndexOutOfBoundsException";
    private static final String INDEX_ARGUMENT = "IllegalArgumentException IndexOutOfBoundsException";
    private static final String INDEX_STATE = "IllegalStateException IndexOutOfBoundsException";
    private static final String ARGUMENT = "IllegalArgumentException";
    private static final String ARGUMENT_STATE = "IllegalArgumentException IllegalStateException";
    private static final String ALL = "IllegalArgumentException IllegalStateException IndexOutOfBoundsException";

    /** Name, how many ints it takes, what it answers, what it throws. */
    private static final Object[][] FACE = {
        {"room", 1, "int", ARGUMENT_STATE}, {"door", 3, "int", ALL}, {"track", 1, "int", INDEX_STATE},
        {"prop", 1, "int", INDEX_STATE}, {"scene", 5, "int", ALL}, {"guest", 1, "int", INDEX_STATE},
        {"habit", 3, "int", INDEX_ARGUMENT}, {"pass", 1, "int", ARGUMENT_STATE}, {"take", 2, "int", INDEX_STATE},
        {"leave", 1, "int", INDEX_STATE}, {"play", 2, "int", ALL}, {"part", 1, "int", INDEX_STATE},
        {"ofRoom", 2, "int", INDEX_ARGUMENT}, {"way", 3, "int", INDEX_ARGUMENT}, {"ofTrack", 2, "int", INDEX_ARGUMENT},
        {"ofScene", 2, "int", INDEX_ARGUMENT}, {"ofGuest", 2, "int", INDEX_ARGUMENT},
        {"ofProp", 2, "int", INDEX_ARGUMENT}, {"seen", 2, "int", INDEX}, {"many", 1, "int", ARGUMENT},
        {"meanKnown", 0, "double", ""}, {"wouldKnow", 2, "int", INDEX_ARGUMENT}, {"bestHabit", 2, "int", INDEX_ARGUMENT},
        {"wouldCut", 1, "int", ARGUMENT}, {"doubles", 1, "int", INDEX}, {"digest", 0, "long", ""}
    };

    public static void main(String[] args) {
        Check.runAll(FaceTest.class);
    }

    private static void promise1TheClassIsFinalAndHasOneConstructor() {
        int modifiers = ManorLoops.class.getModifiers();
        Check.same("public and final", modifiers & (Modifier.PUBLIC | Modifier.FINAL), Modifier.PUBLIC | Modifier.FINAL);
        Constructor<?>[] constructors = ManorLoops.class.getDeclaredConstructors();
        Check.same("constructors", constructors.length, 1);
        Check.same("its parameters", constructors[0].getParameterCount(), 0);
        Check.same("is public", constructors[0].getModifiers(), Modifier.PUBLIC);
    }

    private static void promises2To27TheMethodsAreTheDocuments() {
        Set<String> due = new TreeSet<>();
        for (Object[] line : FACE) {
            due.add(line[0] + "(" + "int ".repeat((int) line[1]) + ") " + line[2] + " throws " + line[3]);
        }
        Set<String> got = new TreeSet<>();
        for (Method method : ManorLoops.class.getDeclaredMethods()) {
            if (!Modifier.isPrivate(method.getModifiers()) && !method.isSynthetic()) {
                got.add(describe(method));
            }
        }
        Check.sameText("the face", got.toString(), due.toString());
    }

    private static String describe(Method method) {
        StringBuilder text = new StringBuilder(method.getName()).append('(');
        for (Class<?> parameter : method.getParameterTypes()) {
            text.append(parameter.getSimpleName()).append(' ');
        }
        Set<String> thrown = new TreeSet<>();
        for (Class<?> exception : method.getExceptionTypes()) {
            thrown.add(exception.getSimpleName());
        }
        return text + ") " + method.getReturnType().getSimpleName() + " throws " + String.join(" ", thrown);
    }

    private static void promises1To27NothingElseIsVisible() {
        for (Field field : ManorLoops.class.getDeclaredFields()) {
            Check.same("private " + field.getName(), field.getModifiers() & Modifier.PRIVATE, Modifier.PRIVATE);
        }
        for (Method method : ManorLoops.class.getDeclaredMethods()) {
            boolean seen = Modifier.isPublic(method.getModifiers()) || Modifier.isPrivate(method.getModifiers());
            Check.same("public or private " + method.getName(), seen || method.isSynthetic() ? 1 : 0, 1);
        }
    }
}
