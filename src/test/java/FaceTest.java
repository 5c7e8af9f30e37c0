import java.lang.reflect.Constructor;
import java.lang.reflect.Field;
import java.lang.reflect.Method;
import java.lang.reflect.Modifier;
import java.util.Arrays;
import java.util.TreeSet;
import java.util.stream.Collectors;

/** The public face: the constants, the constructor, the methods and their declared exceptions. */
public final class FaceTest {
    private static final String INDEX = " throws IndexOutOfBoundsException";
    private static final String ARGUMENT = " throws IllegalArgumentException";
    private static final String STATE = " throws IllegalStateException";
    private static final String[] METHODS = {
        "int append(int, int, int, int, int)", "boolean truncate(int)", "int load()" + ARGUMENT,
        "int play()" + ARGUMENT, "int parseError()", "int parseErrorPosition()",
        "int floorCount()", "int capacity()", "int policy()", "int time()", "int floor()",
        "boolean isUpward()", "boolean isFull()", "int stopMask()", "int targetBy(int)" + ARGUMENT,
        "int distance()", "int doorTicks()", "int idleTicks()", "int reversals()",
        "int passengerCount()", "int statusOf(int)" + INDEX, "int originOf(int)" + INDEX,
        "int destinationOf(int)" + INDEX, "int arrivalOf(int)" + INDEX, "int boardedAt(int)" + INDEX,
        "int leftAt(int)" + INDEX, "int waitOf(int)" + INDEX, "int rideOf(int)" + INDEX,
        "int detourOf(int)" + INDEX, "int countStatus(int)" + ARGUMENT, "int waitingAt(int)" + INDEX,
        "int queueAt(int, int)" + INDEX, "int firstWaiting()", "int ridingTo(int)" + INDEX,
        "int busiestOrigin()", "int passengersBetween(int, int)" + INDEX, "int nextArrival()",
        "int totalRide()", "int longestRide()", "int lastDone()", "float movingShare()",
        "int totalWait()", "int longestWait()", "double meanWait()", "boolean isFinished()",
        "int ticksToFinish()", "int ticksWithPolicy(int)" + ARGUMENT,
        "int waitWithPolicy(int)" + ARGUMENT, "int longestWaitWithPolicy(int)" + ARGUMENT,
        "int bestPolicy()",
        "int ticksWithCapacity(int) throws IllegalArgumentException IllegalStateException",
        "int expectedAt(int)" + INDEX,
        "int addPassenger(int, int, int) throws IndexOutOfBoundsException"
            + " IllegalArgumentException IllegalStateException",
        "int run(int) throws IllegalArgumentException IllegalStateException", "int runToEnd()",
        "int setPolicy(int)" + ARGUMENT,
        "int setCapacity(int) throws IllegalArgumentException IllegalStateException",
        "int undo()" + STATE, "int undoDepth()", "boolean save(int)" + INDEX,
        "int restore(int) throws IndexOutOfBoundsException IllegalStateException",
        "int writeStatus()", "int writeBuilding()", "int outputByte(int)"};
    private static final String[] CONSTANTS = {
        "NONE=-1", "ABSENT=0", "WAITING=1", "RIDING=2", "DONE=3", "FIRST_COME=0", "NEAREST=1",
        "SWEEP=2"};

    public static void main(String[] args) throws IllegalAccessException {
        methods();
        fields();
        constructors();
        int modifiers = LiftScheduler.class.getModifiers();
        Check.same("the class is public and final", modifiers, Modifier.PUBLIC | Modifier.FINAL);
        for (Class<?> inside : LiftScheduler.class.getDeclaredClasses()) {
            Check.same(inside.getName() + " is static", Modifier.isStatic(inside.getModifiers()), true);
            Check.same(inside.getName() + " is public", Modifier.isPublic(inside.getModifiers()), false);
        }
        Check.end();
    }

    private static void methods() {
        TreeSet<String> due = new TreeSet<>(Arrays.asList(METHODS));
        TreeSet<String> found = new TreeSet<>();
        TreeSet<String> publicNames = new TreeSet<>();
        for (Method method : LiftScheduler.class.getDeclaredMethods()) {
            if (!Modifier.isPrivate(method.getModifiers())) {
                Check.same(method + " public alone", method.getModifiers(), Modifier.PUBLIC);
                found.add(described(method));
                publicNames.add(method.getName());
            }
        }
        Check.same("the methods", found.toString(), due.toString());
        for (Method method : LiftScheduler.class.getDeclaredMethods()) {
            if (Modifier.isPrivate(method.getModifiers())) {
                Check.same(method + " bears a public name", publicNames.contains(method.getName()), false);
            }
        }
    }

    private static String described(Method method) {
        String parameters = Arrays.stream(method.getParameterTypes()).map(Class::getSimpleName)
                .collect(Collectors.joining(", "));
        String exceptions = Arrays.stream(method.getExceptionTypes()).map(Class::getSimpleName)
                .collect(Collectors.joining(" "));
        return method.getReturnType().getSimpleName() + " " + method.getName() + "(" + parameters + ")"
                + (exceptions.isEmpty() ? "" : " throws " + exceptions);
    }

    private static void fields() throws IllegalAccessException {
        TreeSet<String> due = new TreeSet<>(Arrays.asList(CONSTANTS));
        TreeSet<String> found = new TreeSet<>();
        for (Field field : LiftScheduler.class.getDeclaredFields()) {
            if (!Modifier.isPrivate(field.getModifiers())) {
                Check.same(field + " is a constant", field.getModifiers(),
                        Modifier.PUBLIC | Modifier.STATIC | Modifier.FINAL);
                found.add(field.getName() + "=" + field.getInt(null));
            }
        }
        Check.same("the constants", found.toString(), due.toString());
    }

    private static void constructors() {
        Constructor<?>[] constructors = LiftScheduler.class.getDeclaredConstructors();
        Check.same("one constructor", constructors.length, 1);
        Check.same("it is public", constructors[0].getModifiers(), Modifier.PUBLIC);
        Check.same("it takes nothing", constructors[0].getParameterCount(), 0);
    }
}
