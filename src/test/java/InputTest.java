/** Promises 1 to 7: a new object, the input buffer, texts, scripts and their errors. */
public final class InputTest {
    private static final String HEAD = "lift 10 4 sweep;";

    public static void main(String[] args) {
        newObject();
        appending();
        truncating();
        loading();
        loadingReplaces();
        failedLoading();
        playing();
        playIsOneChange();
        spacing();
        commands();
        repeating();
        wrongTokens();
        wrongNumbers();
        tooManyCalls();
        impossible();
        notAsExpected();
        Check.end();
    }

    private static void newObject() {
        LiftScheduler lift = new LiftScheduler();
        Check.same("new state", Check.state(lift), "10 4 2 0 0 true 0 0 0 0:");
        Check.same("new state as by the text", Check.state(lift), Check.state(Check.loaded(HEAD)));
        Check.same("new buffer", lift.truncate(1), false);
        Check.same("new output", lift.outputByte(0), LiftScheduler.NONE);
        Check.same("new error", lift.parseError(), 0);
        Check.same("new position", lift.parseErrorPosition(), LiftScheduler.NONE);
        Check.same("new undoDepth", lift.undoDepth(), 0);
        Check.wrongState("new slot 0", () -> lift.restore(0));
        Check.wrongState("new slot 1", () -> lift.restore(1));
        Check.wrongArgument("load of nothing", lift::load);
        Check.same("error of nothing", lift.parseError(), 1);
        Check.same("position of nothing", lift.parseErrorPosition(), 0);
    }

    private static void appending() {
        LiftScheduler lift = new LiftScheduler();
        for (int n = 1; n <= 25; n++) {
            Check.same("append " + n, lift.append(-1, 0, 1, 2, 3), 20 * n);
        }
        Check.same("append 26", lift.append(0, 0, 0, 0, 0), LiftScheduler.NONE);
        Check.same("full buffer is kept", lift.truncate(500), true);
        Check.same("no more than 500", lift.truncate(501), false);
        Check.same("truncate to 481", lift.truncate(481), true);
        Check.same("append at 481", lift.append(0, 0, 0, 0, 0), LiftScheduler.NONE);
        Check.same("nothing is appended", lift.truncate(482), false);
        Check.same("truncate to 480", lift.truncate(480), true);
        Check.same("append at 480", lift.append(0, 0, 0, 0, 0), 500);

        // "lift", " 10 ", "4 sw", "eep;", "    ": the first byte is the most significant.
        LiftScheduler bytes = new LiftScheduler();
        Check.same("append", bytes.append(0x6c696674, 0x20313220, 0x33207377, 0x6565703b, 0x20202020), 20);
        Check.same("load", bytes.load(), 0);
        Check.same("floors by bytes", bytes.floorCount(), 12);
        Check.same("capacity by bytes", bytes.capacity(), 3);
    }

    private static void truncating() {
        LiftScheduler lift = new LiftScheduler();
        Check.same("truncate(0) of nothing", lift.truncate(0), true);
        Check.same("truncate(-1)", lift.truncate(-1), false);
        Check.same("truncate(least)", lift.truncate(Integer.MIN_VALUE), false);
        lift.append(0, 0, 0, 0, 0);
        Check.same("truncate(21)", lift.truncate(21), false);
        Check.same("truncate(20)", lift.truncate(20), true);
        Check.same("truncate(-1) of 20", lift.truncate(-1), false);
        Check.same("still 20", lift.append(0, 0, 0, 0, 0), 40);
        Check.same("truncate(7)", lift.truncate(7), true);
        Check.same("append behind 7", lift.append(0, 0, 0, 0, 0), 27);
        Check.same("truncate(greatest)", lift.truncate(Integer.MAX_VALUE), false);
    }

    private static void loading() {
        LiftScheduler lift = new LiftScheduler();
        Check.type(lift, "lift 20 8 nearest; call 19 0; call 0 19 at 999; run 3;");
        Check.same("load", lift.load(), 2);
        Check.same("loaded", Check.state(lift),
                "20 8 1 3 3 true 3 0 0 0: 19>0@0/-1/-1 0>19@999/-1/-1");
        Check.same("the buffer is empty", lift.truncate(1), false);
        Check.same("no error", lift.parseError(), 0);
        Check.same("no position", lift.parseErrorPosition(), LiftScheduler.NONE);
        Check.same("least building", Check.state(Check.loaded("lift 2 1 first;")),
                "2 1 0 0 0 true 0 0 0 0:");
    }

    private static void loadingReplaces() {
        LiftScheduler lift = new LiftScheduler();
        lift.addPassenger(1, 2, 0);
        lift.run(9);
        lift.save(0);
        lift.save(1);
        lift.writeStatus();
        Check.play(lift, "call 9 0; run 20; call 1 2; reverse;");
        Check.same("ticksToFinish before", lift.ticksToFinish(), 4);
        Check.type(lift, "lift 5 2 first;");
        Check.same("load", lift.load(), 0);
        Check.same("replaced", Check.state(lift), "5 2 0 0 0 true 0 0 0 0:");
        Check.same("no change to undo", lift.undoDepth(), 0);
        Check.wrongState("undo", lift::undo);
        Check.wrongState("slot 0 is empty", () -> lift.restore(0));
        Check.wrongState("slot 1 is empty", () -> lift.restore(1));
        Check.same("slot 0 was empty", lift.save(0), true);
        Check.same("output stays", Check.output(lift, 1), "d");
        Check.same("nobody is left to ride", lift.isFinished(), true);
        Check.play(lift, "call 0 4; call 0 4; run 1;");
        Check.same("two riders", lift.isFull(), true);
        Check.type(lift, "lift 5 2 first;");
        Check.same("load again", lift.load(), 0);
        Check.same("no riders", lift.isFull(), false);
    }

    private static void failedLoading() {
        LiftScheduler lift = new LiftScheduler();
        lift.addPassenger(1, 2, 0);
        lift.run(2);
        lift.save(1);
        String before = Check.state(lift);
        Check.type(lift, "lift 5 2 first; call 0 1; run 5; call 9 9;");
        Check.wrongArgument("load", lift::load);
        Check.same("state stays", Check.state(lift), before);
        Check.same("the buffer is empty", lift.truncate(1), false);
        Check.same("changes stay", lift.undoDepth(), 2);
        Check.same("the slot stays", lift.restore(1), 2);
        Check.same("error", lift.parseError(), 2);
        Check.same("position", lift.parseErrorPosition(), 38);
        Check.same("play of nothing", lift.play(), 0);
        Check.same("error is gone", lift.parseError(), 0);
        Check.same("position is gone", lift.parseErrorPosition(), LiftScheduler.NONE);
    }

    private static void playing() {
        LiftScheduler lift = Check.loaded("lift 6 2 sweep; call 2 4;");
        Check.same("play", Check.play(lift, "run 3; expect riding 1; call 5 0 at 9;"), 3);
        Check.same("played", Check.state(lift),
                "6 2 2 3 2 true 2 1 0 0: 2>4@0/2/-1 5>0@9/-1/-1");
        Check.same("the buffer is empty", lift.truncate(1), false);
        lift.run(2);
        lift.addPassenger(0, 1, 77);
        Check.same("repeated commands", Check.play(lift,
                "expect time 5; repeat 3 (reverse; run 1;); repeat 9 (); policy first;"), 8);
        Check.same("played after other changes", Check.state(lift),
                "6 2 0 8 4 false 4 2 2 0: 2>4@0/2/5 5>0@9/-1/-1 0>1@77/-1/-1");
        Check.wrongArgument("a text is no script", () -> Check.play(lift, HEAD));
        Check.same("error", lift.parseError(), 1);
        Check.same("position", lift.parseErrorPosition(), 0);
        String before = Check.state(lift);
        Check.wrongArgument("failing script", () -> Check.play(lift, "run 1; call 0 2; run x;"));
        Check.same("state stays", Check.state(lift), before);
        Check.same("the buffer is empty again", lift.truncate(1), false);
        Check.same("only four changes", lift.undoDepth(), 4);
    }

    private static void playIsOneChange() {
        LiftScheduler lift = new LiftScheduler();
        lift.save(0);
        Check.play(lift, "call 1 2; run 1; policy first; capacity 8; reverse;");
        Check.same("one change", lift.undoDepth(), 1);
        Check.same("empty script", Check.play(lift, ""), 0);
        Check.same("two changes", lift.undoDepth(), 2);
        Check.same("undo", lift.undo(), 1);
        Check.same("undo", lift.undo(), 0);
        Check.same("undone", Check.state(lift), "10 4 2 0 0 true 0 0 0 0:");
        Check.same("slots stay", lift.save(0), false);
    }

    private static void spacing() {
        Check.same("no spaces", Check.state(Check.loaded("lift10 4sweep;call 2 4at 5;run3;")),
                "10 4 2 3 0 true 0 0 3 0: 2>4@5/-1/-1");
        Check.same("all spaces", Check.state(Check.loaded("\n\t lift\t10\n4  sweep ;\t\n")),
                "10 4 2 0 0 true 0 0 0 0:");
        Check.same("leading zeros", Check.state(Check.loaded("lift 010 004 sweep;call 00 001;")),
                "10 4 2 0 0 true 0 0 0 0: 0>1@0/-1/-1");
        Check.errorOf("words run together", "lift 10 4 sweep;call 2 4 at5;runs 3;", 1, 29);
        Check.errorOf("a word that is none", "lift 10 4 sweepz;", 1, 10);
        Check.errorOf("a word that is none before", "alift 10 4 sweep;", 1, 0);
        Check.errorOf("500 tokens", ";".repeat(500), 1, 0);
        Check.errorOf("500 tokens behind each other", HEAD + "run1;".repeat(96) + "();(", 1, 496);
        Check.errorOf("word in two", "li ft 10 4 sweep;", 1, 0);
        Check.errorOf("number in two", "lift 1 0 4 sweep;", 2, 5);
        Check.errorOf("carriage return", "lift 10 4 sweep;\r", 1, 16);
        Check.errorOf("byte 0", "lift 10 4 sweep;\0", 1, 16);
        Check.errorOf("byte 255", "lift\u00ff", 1, 4);
        Check.errorOf("great letter", "Lift 10 4 sweep;", 1, 0);
        Check.errorOf("great letter behind", "lifT 10 4 sweep;", 1, 0);
        Check.errorOf("minus", "lift 10 4 sweep; call -1 2;", 1, 22);
        Check.errorOf("comma", "lift 10,4 sweep;", 1, 7);
    }

    private static void commands() {
        LiftScheduler lift = new LiftScheduler();
        Check.same("policies", Check.play(lift, "policy sweep; policy nearest;"), 2);
        Check.same("nearest", lift.policy(), LiftScheduler.NEAREST);
        Check.play(lift, "policy first;");
        Check.same("first", lift.policy(), LiftScheduler.FIRST_COME);
        Check.play(lift, "policy sweep; capacity 8; capacity 1;");
        Check.same("sweep", lift.policy(), LiftScheduler.SWEEP);
        Check.same("capacity", lift.capacity(), 1);
        Check.play(lift, "reverse;");
        Check.same("reverse turns", lift.isUpward(), false);
        Check.same("reverse is not counted", lift.reversals(), 0);
        Check.play(lift, "reverse;");
        Check.same("reverse turns back", lift.isUpward(), true);
        Check.play(lift, "run 2; call 3 1;");
        Check.same("call at the present time", lift.arrivalOf(0), 2);
        Check.play(lift, "finish; expect done 1; expect time 9; expect floor 1;"
                + "expect distance 5; expect riding 0; expect waiting 0; finish;");
        Check.same("finish", lift.time(), 9);
        Check.play(lift, "call 9 0 at 20; call 9 0 at 21;");
        Check.play(lift, "until waiting 1;");
        Check.same("until waiting", lift.time(), 20);
        Check.play(lift, "until floor 5; ");
        Check.same("until floor", lift.time(), 24);
        Check.play(lift, "until riding 1;");
        Check.same("until riding", lift.time(), 29);
        Check.play(lift, "until done 1; until done 2;");
        Check.same("until done", lift.time(), 39);
        Check.play(lift, "until distance 40;");
        Check.same("until distance", lift.distance(), 40);
        Check.same("until distance: time", lift.time(), 58);
        Check.play(lift, "until time 999;");
        Check.same("until time", lift.time(), 999);
        Check.same("until that holds", Check.play(lift, "until time 0; until floor 0; finish;"), 3);
        Check.same("call at the end", Check.play(lift, "call 0 1; call 1 0 at 999;"), 2);
        Check.same("finish at the end", Check.play(lift, "finish; expect waiting 2;"), 2);
        Check.same("time stays", lift.time(), 999);
    }

    private static void repeating() {
        LiftScheduler lift = new LiftScheduler();
        Check.same("nine times", Check.play(lift, "repeat 9 (call 1 2; run 1;);"), 18);
        Check.same("nine passengers", lift.passengerCount(), 9);
        Check.same("nine ticks", lift.time(), 9);
        Check.same("once", Check.play(lift, "repeat 1(reverse;);"), 1);
        Check.same("empty", Check.play(lift, "repeat 5 ( ) ;"), 0);
        Check.errorOf("in the second round", HEAD + "repeat 2 (call 0 1 at 0; run 1;);", 2, 38);
        Check.errorOf("second round before what follows", HEAD + "repeat 2 (call 0 1 at 0; run 1;)", 2, 38);
        Check.errorOf("third round", HEAD + "repeat 3 (run 400;);", 4, 30);
        Check.errorOf("expect in the second round", HEAD + "repeat 2 (expect time 0; run 1;);", 5, 26);
        Check.errorOf("wrong token in the first round", HEAD + "repeat 3 (run 999; foo);", 1, 35);
        Check.errorOf("call in the fifth round", HEAD + "repeat 5 (call 0 1; call 0 1; call 0 1; call 0 1;"
                + "call 0 1; call 0 1; call 0 1; call 0 1; call 0 1;);", 3, 65);
        Check.errorOf("no repeat in repeat", HEAD + "repeat 2 (repeat 2 (););", 1, 26);
        Check.errorOf("times 0", HEAD + "repeat 0 ();", 2, 23);
        Check.errorOf("times 10", HEAD + "repeat 10 ();", 2, 23);
        Check.errorOf("no times", HEAD + "repeat ();", 1, 23);
        Check.errorOf("no bracket", HEAD + "repeat 2 run 1;", 1, 25);
        Check.errorOf("no closing bracket", HEAD + "repeat 2 (run 1;", 1, 32);
        Check.errorOf("no semicolon in the brackets", HEAD + "repeat 2 (run 1);", 1, 31);
        Check.errorOf("no semicolon behind", HEAD + "repeat 2 (run 1;) run 1;", 1, 34);
        Check.errorOf("only a bracket", HEAD + ");", 1, 16);
        Check.errorOf("empty command in the brackets", HEAD + "repeat 2 (;);", 1, 26);
    }

    private static void wrongTokens() {
        Check.errorOf("only spaces", "  \n ", 1, 4);
        Check.errorOf("ends in the head", "lift 10 4 ", 1, 10);
        Check.errorOf("ends before the semicolon", "lift 10 4 sweep", 1, 15);
        Check.errorOf("ends in a command", HEAD + "call 1 2 at  ", 1, 29);
        Check.errorOf("other first word", "call 10 4 sweep;", 1, 0);
        Check.errorOf("a word for the floors", "lift ten 4 sweep;", 1, 5);
        Check.errorOf("a word for the capacity", "lift 10 sweep;", 1, 8);
        Check.errorOf("a number for the policy", "lift 10 4 2;", 1, 10);
        Check.errorOf("no such policy", "lift 10 4 second;", 1, 10);
        Check.errorOf("a counter is no policy", "lift 10 4 done;", 1, 10);
        Check.errorOf("a number more", "lift 10 4 sweep 2;", 1, 16);
        Check.errorOf("a long number where none may stand", HEAD + "1234;", 1, 16);
        Check.errorOf("empty command", HEAD + ";", 1, 16);
        Check.errorOf("no such command", HEAD + "walk 3;", 1, 16);
        Check.errorOf("a policy is no command", HEAD + "sweep;", 1, 16);
        Check.errorOf("call without numbers", HEAD + "call;", 1, 20);
        Check.errorOf("call without destination", HEAD + "call 3;", 1, 22);
        Check.errorOf("call without at", HEAD + "call 3 4 5;", 1, 25);
        Check.errorOf("call at nothing", HEAD + "call 3 4 at;", 1, 27);
        Check.errorOf("run without ticks", HEAD + "run;", 1, 19);
        Check.errorOf("finish with ticks", HEAD + "finish 3;", 1, 23);
        Check.errorOf("until without counter", HEAD + "until 3;", 1, 22);
        Check.errorOf("until a wrong counter", HEAD + "until capacity 3;", 1, 22);
        Check.errorOf("until without value", HEAD + "until done;", 1, 26);
        Check.errorOf("reverse with a number", HEAD + "reverse 1;", 1, 24);
        Check.errorOf("policy without name", HEAD + "policy;", 1, 22);
        Check.errorOf("capacity without number", HEAD + "capacity;", 1, 24);
        Check.errorOf("expect without counter", HEAD + "expect;", 1, 22);
        Check.errorOf("expect without value", HEAD + "expect time;", 1, 27);
        Check.errorOf("expect a word", HEAD + "expect time time;", 1, 28);
        Check.errorOf("two semicolons", HEAD + "run 1;;", 1, 22);
        Check.errorOf("a 41st call where none may stand", HEAD + calls(40) + "run 1 call 0 1;", 1, 382);
    }

    private static void wrongNumbers() {
        Check.errorOf("floors 1", "lift 1 4 sweep;", 2, 5);
        Check.errorOf("floors 21", "lift 21 4 sweep;", 2, 5);
        Check.errorOf("floors of four digits", "lift 0010 4 sweep;", 2, 5);
        Check.errorOf("floors of very many digits", "lift 99999999999999999999 4 sweep;", 2, 5);
        Check.errorOf("floors that wrap round", "lift 4294967306 4 sweep;", 2, 5);
        Check.errorOf("capacity 0", "lift 10 0 sweep;", 2, 8);
        Check.errorOf("capacity 9", "lift 10 9 sweep;", 2, 8);
        Check.errorOf("origin 10", HEAD + "call 10 2;", 2, 21);
        Check.errorOf("destination 10", HEAD + "call 2 10;", 2, 23);
        Check.errorOf("destination is the origin", HEAD + "call 2 2;", 2, 23);
        Check.errorOf("floors of a small building", "lift 2 1 first; call 0 2;", 2, 23);
        Check.errorOf("at 1000", HEAD + "call 2 3 at 1000;", 2, 28);
        Check.errorOf("at a time before", HEAD + "run 5; call 2 3 at 4;", 2, 35);
        Check.errorOf("run 0", HEAD + "run 0;", 2, 20);
        Check.errorOf("run 1000", HEAD + "run 1000;", 2, 20);
        Check.errorOf("run of four digits", HEAD + "run 0001;", 2, 20);
        Check.errorOf("until 1000", HEAD + "until time 1000;", 2, 27);
        Check.errorOf("capacity command 0", HEAD + "capacity 0;", 2, 25);
        Check.errorOf("capacity command 9", HEAD + "capacity 9;", 2, 25);
        Check.errorOf("expect 1000", HEAD + "expect time 1000;", 2, 28);
        Check.errorOf("number before the end", HEAD + "run 0", 2, 20);
        LiftScheduler lift = new LiftScheduler();
        Check.same("at the present time", Check.play(lift, "run 5; call 2 3 at 5;"), 2);
        Check.same("at 999", Check.play(lift, "call 2 3 at 999;"), 1);
        Check.same("greatest value", Check.play(lift, "run 993; until time 998;"), 2);
    }

    private static void tooManyCalls() {
        Check.same("40 calls", Check.loaded(HEAD + calls(40)).passengerCount(), 40);
        Check.errorOf("41 calls", HEAD + calls(41), 3, 376);
        Check.errorOf("41st call with wrong numbers", HEAD + calls(40) + "call 77", 3, 376);
        Check.errorOf("wrong token before", HEAD + calls(40) + "cal 0 1;", 1, 376);
    }

    private static void impossible() {
        Check.errorOf("run beyond 999", HEAD + "run 999; run 1;", 4, 29);
        Check.errorOf("run without semicolon", HEAD + "run 999; run 1", 4, 29);
        Check.errorOf("until never", HEAD + "until riding 1;", 4, 29);
        Check.errorOf("until later than 999", HEAD + "call 0 9 at 990; until done 1;", 4, 44);
        Check.errorOf("capacity below the riders", HEAD + "call 0 9; call 0 8; run 1; capacity 1;", 4, 52);
        Check.same("capacity of the riders",
                Check.loaded(HEAD + "call 0 9; call 0 8; run 1; capacity 2;").isFull(), true);
        Check.same("until at the last tick",
                Check.loaded(HEAD + "call 0 9 at 988; until done 1;").time(), 999);
        Check.errorOf("until one tick too late", HEAD + "call 0 9 at 989; until done 1;", 4, 44);
    }

    private static void notAsExpected() {
        Check.errorOf("expect less", HEAD + "run 5; expect time 4;", 5, 23);
        Check.errorOf("expect more", HEAD + "run 5; expect time 6;", 5, 23);
        Check.errorOf("expect before the semicolon", HEAD + "expect time 6 foo", 5, 16);
        Check.errorOf("expect that holds", HEAD + "expect time 0 foo", 1, 30);
        Check.errorOf("expect of a wrong value", HEAD + "expect time 1234;", 2, 28);
        Check.errorOf("expect done", HEAD + "expect done 1;", 5, 16);
        Check.errorOf("expect riding", HEAD + "expect riding 1;", 5, 16);
        Check.errorOf("expect waiting", HEAD + "expect waiting 1;", 5, 16);
        Check.errorOf("expect floor", HEAD + "expect floor 1;", 5, 16);
        Check.errorOf("expect distance", HEAD + "expect distance 1;", 5, 16);
    }

    private static String calls(int number) {
        return "call 0 1;".repeat(number);
    }
}
