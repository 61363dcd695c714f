import java.lang.reflect.Constructor;
import java.lang.reflect.Field;
import java.lang.reflect.Method;
import java.lang.reflect.Modifier;
import java.util.Arrays;
import java.util.Set;
import java.util.TreeSet;
import java.util.stream.Collectors;

/** The class has the document's face, and no other member that others can see. */
public final class FaceTest {
    private static final String INDEX = "IndexOutOfBoundsException";
    private static final String ARGUMENT = "IllegalArgumentException";
    private static final String STATE = "IllegalStateException";
    private static final String NONE = "NoSuchElementException";

    private static final String[] FACE = {
        "int putPiece(int, int, int) throws " + INDEX + ", " + ARGUMENT + ", " + STATE,
        "int putLeader(int, int, int) throws " + INDEX + ", " + ARGUMENT + ", " + STATE,
        "int takeAway(int) throws " + INDEX + ", " + STATE,
        "int start() throws " + STATE,
        "int move(int, int) throws " + INDEX + ", " + STATE,
        "int play() throws " + ARGUMENT,
        "int whyNot(int, int) throws " + INDEX,
        "int append(char) throws " + STATE,
        "int clearText() throws ",
        "boolean isValid() throws ",
        "int firstError() throws " + STATE,
        "int undo() throws " + STATE,
        "int pieces(int) throws " + INDEX,
        "int sideAt(int) throws " + INDEX + ", " + NONE,
        "int stepsAt(int) throws " + INDEX + ", " + NONE,
        "int worthAt(int) throws " + INDEX + ", " + NONE,
        "int leaderOf(int) throws " + INDEX + ", " + NONE,
        "int knowing(int, int) throws " + INDEX,
        "long reach(int) throws " + INDEX + ", " + NONE,
        "int moveCount(int) throws " + INDEX,
        "int guards(int, int) throws " + INDEX,
        "int guardsByLooking(int, int) throws " + INDEX,
        "long guarded(int) throws " + INDEX,
        "int exchange(int) throws " + INDEX + ", " + NONE,
        "int weakest(int) throws " + INDEX + ", " + NONE,
        "int toMove() throws ",
        "boolean isOver() throws ",
        "int winner() throws " + NONE,
        "int repetitions() throws ",
        "int movesMade() throws ",
        "int worth(int) throws " + INDEX,
        "int worthByAccount(int) throws " + INDEX,
        "int captured(int) throws " + INDEX,
        "double worthShare(int) throws " + INDEX,
        "int historySize() throws ",
    };

    public static void main(String[] args) {
        Set<String> seen = new TreeSet<>();
        Set<String> names = new TreeSet<>();
        for (Method method : BrackenGambit.class.getDeclaredMethods()) {
            if (Modifier.isPublic(method.getModifiers())) {
                seen.add(describe(method));
                names.add(method.getName());
            }
        }
        Check.same("the public methods", seen, new TreeSet<>(Arrays.asList(FACE)));
        for (Method method : BrackenGambit.class.getDeclaredMethods()) {
            boolean hidden = Modifier.isPrivate(method.getModifiers());
            Check.same(method.getName() + " is public or private", hidden || names.contains(method.getName()), true);
            Check.same(method.getName() + " has one kind of name", hidden && names.contains(method.getName()), false);
        }
        for (Field field : BrackenGambit.class.getDeclaredFields()) {
            Check.same(field.getName() + " is private", Modifier.isPrivate(field.getModifiers()), true);
        }
        Constructor<?>[] constructors = BrackenGambit.class.getDeclaredConstructors();
        Check.same("one constructor", constructors.length, 1);
        Check.same("it is public", Modifier.isPublic(constructors[0].getModifiers()), true);
        Check.same("without parameters", constructors[0].getParameterCount(), 0);
        Check.same("the class", Modifier.toString(BrackenGambit.class.getModifiers()), "public final");
        for (Class<?> inside : BrackenGambit.class.getDeclaredClasses()) {
            Check.same(inside + " is static", Modifier.isStatic(inside.getModifiers()), true);
            Check.same(inside + " is hidden", Modifier.isPublic(inside.getModifiers()), false);
        }
        Check.finish();
    }

    private static String describe(Method method) {
        return method.getReturnType().getName() + " " + method.getName()
                + "(" + simpleNames(method.getParameterTypes()) + ") throws "
                + simpleNames(method.getExceptionTypes());
    }

    private static String simpleNames(Class<?>[] types) {
        return Arrays.stream(types).map(Class::getSimpleName).collect(Collectors.joining(", "));
    }
}
