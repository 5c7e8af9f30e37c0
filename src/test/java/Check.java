/** Counts wrong answers of one test and prints them; fills the input buffer with texts. */
final class Check {
    private static final String NEW_STATE = "10 4 2 0 0 true 0 0 0 0:";
    private static int wrong = 0;
    // What stands before each wrong answer: the sentence of the document that is tested.
    private static String sentence = "";

    private Check() {
    }

    static void same(String what, long answered, long due) {
        if (answered != due) {
            wrong(what + " answered " + answered + ", due is " + due);
        }
    }

    static void same(String what, boolean answered, boolean due) {
        if (answered != due) {
            wrong(what + " answered " + answered + ", due is " + due);
        }
    }

    static void same(String what, double answered, double due) {
        if (Double.doubleToLongBits(answered) != Double.doubleToLongBits(due)) {
            wrong(what + " answered " + answered + ", due is " + due);
        }
    }

    static void same(String what, String answered, String due) {
        if (!answered.equals(due)) {
            wrong(what + " answered \"" + answered + "\", due is \"" + due + "\"");
        }
    }

    /** The class must be the very one: an exception of a class below it is wrong too. */
    static void fails(String what, Class<? extends Exception> due, Runnable call) {
        try {
            call.run();
        } catch (RuntimeException thrown) {
            if (thrown.getClass() != due) {
                wrong(what + " threw " + thrown + ", due is " + due.getSimpleName());
            }
            return;
        }
        wrong(what + " threw nothing, due is " + due.getSimpleName());
    }

    static void outOfBounds(String what, Runnable call) {
        fails(what, IndexOutOfBoundsException.class, call);
    }

    static void wrongArgument(String what, Runnable call) {
        fails(what, IllegalArgumentException.class, call);
    }

    static void wrongState(String what, Runnable call) {
        fails(what, IllegalStateException.class, call);
    }

    static void wrong(String line) {
        wrong++;
        System.out.println(sentence + line);
    }

    /** A test of one sentence of the document; what it throws is a wrong answer too. */
    static void holds(String promiseAndSentence, Runnable test) {
        sentence = "\"" + promiseAndSentence + "\" does not hold: ";
        try {
            test.run();
        } catch (RuntimeException thrown) {
            wrong("the test ended with " + thrown);
        }
        sentence = "";
    }

    /** Ends the test, with exit code 1 if an answer was wrong. */
    static void end() {
        System.out.println(wrong == 0 ? "all answers are as due" : wrong + " answers are wrong");
        if (wrong != 0) {
            System.exit(1);
        }
    }

    /** Appends the characters as bytes; answers whether the buffer took them all. */
    static boolean type(LiftScheduler lift, String text) {
        int[] bytes = new int[text.length()];
        for (int i = 0; i < bytes.length; i++) {
            bytes[i] = text.charAt(i);
        }
        return type(lift, bytes);
    }

    static boolean type(LiftScheduler lift, int[] bytes) {
        int length = 0;
        for (int start = 0; start < bytes.length; start += 20) {
            int[] words = new int[5];
            for (int i = 0; i < 20; i++) {
                int value = start + i < bytes.length ? bytes[start + i] & 255 : 0;
                words[i / 4] = words[i / 4] << 8 | value;
            }
            int grown = lift.append(words[0], words[1], words[2], words[3], words[4]);
            if (grown == LiftScheduler.NONE) {
                return false;
            }
            length = grown;
        }
        int excess = (20 - bytes.length % 20) % 20;
        return excess == 0 || lift.truncate(length - excess);
    }

    /** A new object that has loaded the text. */
    static LiftScheduler loaded(String text) {
        LiftScheduler lift = new LiftScheduler();
        type(lift, text);
        lift.load();
        return lift;
    }

    /** An object without passengers in which a script was played and undone. */
    static LiftScheduler undone(String script) {
        LiftScheduler lift = new LiftScheduler();
        play(lift, script);
        lift.undo();
        return lift;
    }

    static int play(LiftScheduler lift, String script) {
        type(lift, script);
        return lift.play();
    }

    /** A new object must refuse to load the text, and change nothing but buffer and error. */
    static void errorOf(String what, String text, int code, int position) {
        LiftScheduler lift = new LiftScheduler();
        same(what + " fits in the buffer", type(lift, text), true);
        wrongArgument(what, lift::load);
        same(what + ": code", lift.parseError(), code);
        same(what + ": position", lift.parseErrorPosition(), position);
        same(what + ": state", state(lift), NEW_STATE);
        holdsBytes(what, lift, 0);
    }

    /** The number of bytes in the buffer, which stay as they are. */
    static void holdsBytes(String what, LiftScheduler lift, int bytes) {
        same(what + ": no more than " + bytes + " bytes", lift.truncate(bytes + 1), false);
        same(what + ": no less than " + bytes + " bytes", lift.truncate(bytes), true);
    }

    static String output(LiftScheduler lift, int length) {
        StringBuilder text = new StringBuilder();
        for (int i = 0; i < length; i++) {
            text.append((char) lift.outputByte(i));
        }
        return text.toString();
    }

    /** All that the state consists of, as far as the queries show it without forecasts. */
    static String state(LiftScheduler lift) {
        StringBuilder text = new StringBuilder();
        text.append(lift.floorCount()).append(' ').append(lift.capacity()).append(' ')
                .append(lift.policy()).append(' ').append(lift.time()).append(' ')
                .append(lift.floor()).append(' ').append(lift.isUpward()).append(' ')
                .append(lift.distance()).append(' ').append(lift.doorTicks()).append(' ')
                .append(lift.idleTicks()).append(' ').append(lift.reversals()).append(':');
        for (int i = 0; i < lift.passengerCount(); i++) {
            text.append(' ').append(lift.originOf(i)).append('>').append(lift.destinationOf(i))
                    .append('@').append(lift.arrivalOf(i)).append('/').append(lift.boardedAt(i))
                    .append('/').append(lift.leftAt(i));
        }
        return text.toString();
    }

    /** The state and, behind it, what an undo, a restore or a failing call must leave alone. */
    static String everything(LiftScheduler lift) {
        StringBuilder text = new StringBuilder(state(lift));
        text.append(" error ").append(lift.parseError()).append(" at ")
                .append(lift.parseErrorPosition()).append(" changes ").append(lift.undoDepth())
                .append(" output ");
        for (int i = 0; lift.outputByte(i) != LiftScheduler.NONE; i++) {
            text.append((char) lift.outputByte(i));
        }
        return text.toString();
    }
}
