import java.lang.reflect.Constructor;
import java.lang.reflect.Field;
import java.lang.reflect.Method;
import java.lang.reflect.Modifier;
import java.util.ArrayList;
import java.util.List;
import java.util.TreeSet;

/** The public face is the document's, with the exceptions that it names, and nothing else can be seen of the class. */
final class FaceTest {
    private static final String INDEX = " throws IndexOutOfBoundsException";
    private static final String ARGUMENT = " throws IllegalArgumentException";
    private static final String STATE = " throws IllegalStateException";
    private static final String BOTH = INDEX + ", IllegalArgumentException";
    private static final String[] FACE = {
        "int lay(int, int)" + ARGUMENT,
        "int rain(int, int, int)" + BOTH,
        "int splash(int, int, int, int, int)" + BOTH,
        "int swap(int, int)" + INDEX,
        "int turn(int)" + INDEX,
        "int bail(int, int)" + BOTH,
        "int passHours(int)" + ARGUMENT,
        "int mark()" + STATE,
        "int back(int)" + INDEX,
        "int undo()" + STATE,
        "int setSun(int)" + ARGUMENT,
        "int setEdge(int, int)" + BOTH,
        "int flights()",
        "int steps()",
        "int hours()",
        "int sun()",
        "int edgeOf(int)" + INDEX,
        "int marks()",
        "int deeds()",
        "long gone()",
        "int levelAt(int, int)" + INDEX,
        "long sumOf(int, int, int, int)" + BOTH,
        "long sumTo(int, int)" + INDEX,
        "long flightSum(int)" + INDEX,
        "long stepSum(int)" + INDEX,
        "long total()",
        "int firstReaching(int, int)" + INDEX,
        "long bestRun(int)" + INDEX,
        "int dryIn(int, int, int, int)" + BOTH,
        "int dry()",
        "int dryAt(int)" + INDEX,
        "int longestDry(int)" + INDEX,
        "int driestFlight()",
        "int lowestIn(int, int, int, int)" + BOTH,
        "int highestAt(int)" + INDEX,
        "int upTo(int)",
        "int levelInOrder(int)" + INDEX,
        "int outOfOrder()",
        "int alike(int, int)" + INDEX,
        "int changedSince(int)" + INDEX,
        "long totalIn(int)" + ARGUMENT,
        "int goneIn(int)" + ARGUMENT,
        "int hoursUntilDry()",
        "int sunWanted(int)" + ARGUMENT,
        "int bestEdge(int, int)" + BOTH,
        "int bestSwap(int)" + INDEX,
        "double meanLevel()",
        "long digest()",
    };

    private FaceTest() {
    }

    public static void main(String[] args) {
        theClass();
        theMethods();
        nothingElse();
        noPrivateNameIsPublic();
        Check.end();
    }

    private static void theClass() {
        int modifiers = PuddleStairs.class.getModifiers();
        Check.dueText("the class is", Modifier.toString(modifiers), "public final");
        Constructor<?>[] constructors = PuddleStairs.class.getDeclaredConstructors();
        Check.due("how many constructors", constructors.length, 1);
        Check.due("parameters of the constructor", constructors[0].getParameterCount(), 0);
        Check.dueText("the constructor is", Modifier.toString(constructors[0].getModifiers()), "public");
    }

    private static void theMethods() {
        TreeSet<String> got = new TreeSet<>();
        for (Method method : PuddleStairs.class.getDeclaredMethods()) {
            if (Modifier.isPublic(method.getModifiers())) {
                got.add(signature(method));
            }
        }
        Check.dueText("the public methods", got.toString(), new TreeSet<>(List.of(FACE)).toString());
    }

    private static void nothingElse() {
        for (Method method : PuddleStairs.class.getDeclaredMethods()) {
            int modifiers = method.getModifiers();
            Check.due(method.getName() + " is public or private", modifiers & (Modifier.PUBLIC | Modifier.PRIVATE), Modifier.isPublic(modifiers) ? Modifier.PUBLIC : Modifier.PRIVATE);
        }
        for (Field field : PuddleStairs.class.getDeclaredFields()) {
            Check.due(field.getName() + " is private", field.getModifiers() & Modifier.PRIVATE, Modifier.PRIVATE);
        }
    }

    private static void noPrivateNameIsPublic() {
        TreeSet<String> names = new TreeSet<>();
        for (Method method : PuddleStairs.class.getDeclaredMethods()) {
            if (Modifier.isPublic(method.getModifiers())) {
                names.add(method.getName());
            }
        }
        for (Method method : PuddleStairs.class.getDeclaredMethods()) {
            if (Modifier.isPrivate(method.getModifiers())) {
                Check.due(method.getName() + " is the name of a public one too", names.contains(method.getName()) ? 1 : 0, 0);
            }
        }
    }

    private static String signature(Method method) {
        StringBuilder text = new StringBuilder(method.getReturnType().getSimpleName());
        text.append(' ').append(method.getName()).append('(').append(names(method.getParameterTypes())).append(')');
        if (method.getExceptionTypes().length > 0) {
            text.append(" throws ").append(names(method.getExceptionTypes()));
        }
        return text.toString();
    }

    private static String names(Class<?>[] types) {
        List<String> names = new ArrayList<>();
        for (Class<?> type : types) {
            names.add(type.getSimpleName());
        }
        return String.join(", ", names);
    }
}
