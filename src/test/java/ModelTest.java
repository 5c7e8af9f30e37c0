import java.lang.reflect.InvocationTargetException;
import java.lang.reflect.Method;
import java.util.ArrayList;
import java.util.Arrays;
import java.util.Comparator;
import java.util.List;
import java.util.Random;

/** Compares LiftScheduler with Model, call by call, in many runs of chosen and chance calls. */
public final class ModelTest {
    private static final int RUNS = 400;
    private static final int CALLS = 512;
    private static final String[] WORDS = {
        "lift", "first", "nearest", "sweep", "repeat", "call", "at", "run", "finish", "until",
        "reverse", "policy", "capacity", "expect", "done", "riding", "waiting", "floor",
        "distance", "time", ";", "(", ")", "0", "1", "5", "40", "999", "1000", "0001", "foo", "X",
        "\t", "\n", "\r", "\u00ff", ","};

    private final Random random;
    private final LiftScheduler lift = new LiftScheduler();
    private final Model model = new Model();
    private final List<String> calls = new ArrayList<>();
    private final List<Method> methods = new ArrayList<>();
    private int left = CALLS;
    private boolean agrees = true;

    private ModelTest(int seed) {
        random = new Random(seed);
        for (Method method : LiftScheduler.class.getDeclaredMethods()) {
            if (java.lang.reflect.Modifier.isPublic(method.getModifiers())) {
                methods.add(method);
            }
        }
        methods.sort(Comparator.comparing(Method::getName));
    }

    public static void main(String[] args) {
        int first = args.length > 0 ? Integer.parseInt(args[0]) : 0;
        int runs = args.length > 1 ? Integer.parseInt(args[1]) : RUNS;
        for (int seed = first; seed < first + runs; seed++) {
            new ModelTest(seed).compare();
        }
        Check.end();
    }

    private void compare() {
        // Some runs have quiet buildings, some have crowded ones; some begin with a text.
        int crowd = random.nextInt(3);
        if (random.nextInt(4) > 0) {
            typeAndRead("load", text());
        }
        while (left > 0 && agrees) {
            int kind = random.nextInt(20);
            if (kind < 3 + 3 * crowd) {
                addSensibly();
            } else if (kind < 12) {
                ask("run", 1 + random.nextInt(random.nextInt(8) == 0 ? 400 : 12));
            } else if (kind == 12) {
                change();
            } else if (kind == 13 && left > 40) {
                typeAndRead(random.nextInt(6) == 0 ? "load" : "play",
                        random.nextInt(5) == 0 ? text() : script());
            } else {
                for (int i = 0; i < 5; i++) {
                    askAny();
                }
                askSensibly();
            }
        }
    }

    private void change() {
        switch (random.nextInt(8)) {
            case 0:
                ask("undo");
                askState();
                break;
            case 1:
                ask("save", random.nextInt(2));
                break;
            case 2:
                ask("restore", random.nextInt(2));
                askState();
                break;
            case 3:
                ask("runToEnd");
                break;
            case 4:
                ask("setCapacity", 1 + random.nextInt(8));
                break;
            case 5:
                ask("setPolicy", random.nextInt(3));
                break;
            case 6:
                written("writeStatus");
                break;
            default:
                written("writeBuilding");
        }
    }

    private void written(String method) {
        ask(method);
        for (int i = -1; i < 24; i++) {
            ask("outputByte", i);
        }
        ask("outputByte", 20 + random.nextInt(44));
    }

    private void addSensibly() {
        int floors = model.floorCount();
        int arrival = model.time() + (random.nextBoolean() ? 0 : random.nextInt(60));
        ask("addPassenger", random.nextInt(floors), random.nextInt(floors), arrival);
    }

    /** Asks with arguments that are in range, as far as there are such. */
    private void askSensibly() {
        int floors = model.floorCount();
        int passengers = Math.max(1, model.passengerCount());
        String[] ofPassenger = {"statusOf", "boardedAt", "leftAt", "waitOf", "rideOf", "detourOf",
            "expectedAt"};
        String[] ofFloor = {"waitingAt", "ridingTo"};
        String[] ofPolicy = {"targetBy", "ticksWithPolicy", "waitWithPolicy",
            "longestWaitWithPolicy"};
        ask(ofPassenger[random.nextInt(7)], random.nextInt(passengers));
        ask(ofFloor[random.nextInt(2)], random.nextInt(floors));
        ask(ofPolicy[random.nextInt(4)], random.nextInt(3));
        ask("queueAt", random.nextInt(floors), random.nextInt(3));
        int first = model.firstWaiting();
        if (first != -1) {
            ask("queueAt", model.originOf(first), random.nextInt(2));
        }
        ask("countStatus", random.nextInt(4));
    }

    /** Compares what has no arguments and changes nothing: most of the state. */
    private void askState() {
        for (Method method : methods) {
            if (method.getParameterCount() == 0
                    && !method.getName().matches("load|play|runToEnd|undo|write.*")) {
                ask(method.getName());
            }
        }
    }

    private void askAny() {
        Method method = methods.get(random.nextInt(methods.size()));
        boolean changes = method.getName().matches("load|play|append|truncate|restore|run|runToEnd");
        if (changes && random.nextInt(10) > 0) {
            return;
        }
        int[] arguments = new int[method.getParameterCount()];
        for (int i = 0; i < arguments.length; i++) {
            arguments[i] = argument();
        }
        ask(method.getName(), arguments);
    }

    private int argument() {
        int[] edges = {-1, 0, 1, 2, 3, 4, 7, 8, 9, 10, 19, 20, 39, 40, 998, 999, 1000,
            Integer.MIN_VALUE, Integer.MAX_VALUE};
        return random.nextInt(3) == 0 ? edges[random.nextInt(edges.length)] : random.nextInt(12);
    }

    private void typeAndRead(String method, String text) {
        ask("truncate", 0);
        for (int start = 0; start < text.length(); start += 20) {
            int[] words = new int[5];
            for (int i = 0; i < 20; i++) {
                int value = start + i < text.length() ? text.charAt(start + i) : 0;
                words[i / 4] = words[i / 4] << 8 | value;
            }
            ask("append", words);
        }
        ask("truncate", text.length());
        ask(method);
        ask("parseError");
        ask("parseErrorPosition");
        if (random.nextInt(3) == 0) {
            askState();
        }
    }

    private String text() {
        String head = "lift " + number(2, 20) + " " + number(1, 8) + " " + policy() + ";";
        return spoil(head + script());
    }

    private String script() {
        StringBuilder text = new StringBuilder();
        int length = random.nextInt(12);
        for (int i = 0; i < length; i++) {
            if (random.nextInt(5) == 0) {
                text.append("repeat ").append(number(1, 9)).append(" (");
                int body = random.nextInt(4);
                for (int j = 0; j < body; j++) {
                    text.append(simple());
                }
                text.append(");");
            } else {
                text.append(simple());
            }
        }
        return spoil(text.toString());
    }

    private String simple() {
        switch (random.nextInt(12)) {
            case 0:
            case 1:
            case 2:
                return "call " + number(0, 9) + " " + number(0, 9) + ";";
            case 3:
                return "call " + number(0, 9) + " " + number(0, 9) + " at " + number(0, 999) + ";";
            case 4:
            case 5:
                return "run " + number(1, random.nextInt(6) == 0 ? 999 : 20) + ";\n";
            case 6:
                return "finish;";
            case 7:
                return "until " + counter() + " " + number(0, 8) + ";";
            case 8:
                return "reverse ;";
            case 9:
                return "policy " + policy() + ";";
            case 10:
                return "capacity " + number(1, 8) + ";";
            default:
                return "expect " + counter() + number(0, 3) + ";";
        }
    }

    private String policy() {
        return WORDS[1 + random.nextInt(3)];
    }

    private String counter() {
        return WORDS[14 + random.nextInt(6)];
    }

    private String number(int least, int most) {
        int value = least + random.nextInt(most - least + 1);
        if (random.nextInt(150) == 0) {
            value = random.nextBoolean() ? least - 1 : most + 1;
        }
        return Integer.toString(Math.abs(value));
    }

    /** Puts a chance token into some texts and cuts some off; keeps them within the buffer. */
    private String spoil(String text) {
        String spoilt = text;
        if (random.nextInt(6) == 0) {
            int place = random.nextInt(spoilt.length() + 1);
            String token = WORDS[random.nextInt(WORDS.length)];
            spoilt = spoilt.substring(0, place) + token + spoilt.substring(place);
        }
        if (random.nextInt(10) == 0) {
            spoilt = spoilt.substring(0, random.nextInt(spoilt.length() + 1));
        }
        return spoilt.substring(0, Math.min(spoilt.length(), 500));
    }

    private void ask(String name, int... arguments) {
        if (left == 0 || !agrees) {
            return;
        }
        left--;
        calls.add(name + Arrays.toString(arguments));
        String due = answer(model, name, arguments);
        String answered = answer(lift, name, arguments);
        if (!due.equals(answered)) {
            agrees = false;
            Check.wrong("calls " + calls + ": the last answered " + answered + ", due is " + due);
        }
    }

    private static String answer(Object target, String name, int[] arguments) {
        Class<?>[] types = new Class<?>[arguments.length];
        Object[] values = new Object[arguments.length];
        for (int i = 0; i < arguments.length; i++) {
            types[i] = int.class;
            values[i] = arguments[i];
        }
        try {
            return String.valueOf(target.getClass().getMethod(name, types).invoke(target, values));
        } catch (InvocationTargetException thrown) {
            return "throws." + thrown.getCause().getClass().getSimpleName();
        } catch (ReflectiveOperationException impossible) {
            return impossible.toString();
        }
    }
}
