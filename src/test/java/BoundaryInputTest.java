/** A test for each sentence of promises 1 to 7 that names a boundary case. */
public final class BoundaryInputTest {
    private static final int NONE = LiftScheduler.NONE;
    private static final String HEAD = "lift 10 4 sweep;";
    private static final int SPACES = 0x20202020;

    public static void main(String[] args) {
        Check.holds("1: as by the text \"lift 10 4 sweep;\"", BoundaryInputTest::newState);
        Check.holds("1: with an empty input buffer", BoundaryInputTest::newBuffer);
        Check.holds("1: an empty output text", BoundaryInputTest::newOutput);
        Check.holds("1: one object for itself", BoundaryInputTest::newObjectsAreApart);
        Check.holds("2: the four bytes of each parameter in order", BoundaryInputTest::byteOrder);
        Check.holds("2: bytes with the sign bit", BoundaryInputTest::bytesOver127);
        Check.holds("2: the new number of bytes in the buffer", BoundaryInputTest::newNumberOfBytes);
        Check.holds("2: up to 500", BoundaryInputTest::bufferBecomesFull);
        Check.holds("2: NONE if it would be greater than 500", BoundaryInputTest::tooManyBytes);
        Check.holds("2: then nothing is appended", BoundaryInputTest::refusedBytes);
        Check.holds("3: true if length is 0", BoundaryInputTest::truncatedToNothing);
        Check.holds("3: true up to the current number", BoundaryInputTest::truncatedToAll);
        Check.holds("3: false below 0", BoundaryInputTest::truncatedBelowNothing);
        Check.holds("3: false above the current number", BoundaryInputTest::truncatedAboveAll);
        Check.holds("3: then nothing changes", BoundaryInputTest::refusedTruncation);
        Check.holds("3: shortens the input buffer", BoundaryInputTest::shortened);
        loads();
        plays();
        errors();
        Check.end();
    }

    private static void loads() {
        Check.holds("4: the buffer is empty afterwards", BoundaryInputTest::bufferAfterLoad);
        Check.holds("4: the buffer of 500 bytes", BoundaryInputTest::loadOfFullBuffer);
        Check.holds("4: the buffer of 0 bytes", BoundaryInputTest::loadOfEmptyBuffer);
        Check.holds("4: replaces the state", BoundaryInputTest::loadReplacesAll);
        Check.holds("4: no change can be undone", BoundaryInputTest::noUndoAfterLoad);
        Check.holds("4: both slots are empty", BoundaryInputTest::emptySlotsAfterLoad);
        Check.holds("4: after a successful load alone", BoundaryInputTest::failedLoadKeepsUndoAndSlots);
        Check.holds("4: the number of passengers, 0", BoundaryInputTest::loadOfNobody);
        Check.holds("4: the number of passengers, 40", BoundaryInputTest::loadOf40);
        Check.holds("4: the state stays as it is", BoundaryInputTest::stateAfterFailedLoad);
        Check.holds("4: a failing load empties the buffer", BoundaryInputTest::bufferAfterFailedLoad);
    }

    private static void plays() {
        Check.holds("5: the buffer is empty afterwards", BoundaryInputTest::bufferAfterPlay);
        Check.holds("5: this is one change", BoundaryInputTest::playOfMuchIsOneChange);
        Check.holds("5: one change, also of nothing", BoundaryInputTest::playOfNothingIsOneChange);
        Check.holds("5: returns 0 without commands", BoundaryInputTest::playOfNoCommands);
        Check.holds("5: each one as often as it was executed", BoundaryInputTest::playOfMostCommands);
        Check.holds("5: the buffer of 500 bytes", BoundaryInputTest::playOfFullBuffer);
        Check.holds("5: the state stays as it is", BoundaryInputTest::stateAfterFailedPlay);
        Check.holds("5: a failing play empties the buffer", BoundaryInputTest::bufferAfterFailedPlay);
        Check.holds("5: a failing play is no change", BoundaryInputTest::failedPlayIsNoChange);
        Check.holds("5: a text is no script", BoundaryInputTest::playOfText);
    }

    private static void errors() {
        Check.holds("6: the code 1 to 5", BoundaryInputTest::everyCode);
        Check.holds("6: 0 if there was no such call", BoundaryInputTest::noCallYet);
        Check.holds("6 and 7: of the latest call", BoundaryInputTest::latestError);
        Check.holds("6 and 7: 0 and NONE if load succeeded", BoundaryInputTest::errorAfterLoad);
        Check.holds("6 and 7: 0 and NONE if play succeeded", BoundaryInputTest::errorAfterPlay);
        Check.holds("6 and 7: of load or play alone", BoundaryInputTest::errorsOfOtherCalls);
        Check.holds("7: the first position", BoundaryInputTest::firstPosition);
        Check.holds("7: the last position", BoundaryInputTest::lastPosition);
        Check.holds("7: the number of bytes, up to 500", BoundaryInputTest::positionBehindAll);
    }

    // ---- promise 1 ----

    private static void newState() {
        Check.same("state", Check.state(new LiftScheduler()), "10 4 2 0 0 true 0 0 0 0:");
        Check.same("as by the text", Check.everything(new LiftScheduler()),
                Check.everything(Check.loaded(HEAD)));
    }

    private static void newBuffer() {
        LiftScheduler lift = new LiftScheduler();
        Check.holdsBytes("new", lift, 0);
        Check.same("append", lift.append(0, 0, 0, 0, 0), 20);
    }

    private static void newOutput() {
        LiftScheduler lift = new LiftScheduler();
        for (int i = 0; i < 64; i++) {
            Check.same("outputByte " + i, lift.outputByte(i), NONE);
        }
    }

    private static void newObjectsAreApart() {
        LiftScheduler used = Check.loaded("lift 20 8 first; call 19 0; run 9;");
        used.save(0);
        used.writeStatus();
        used.append(0, 0, 0, 0, 0);
        newState();
        newBuffer();
        newOutput();
        Check.wrongState("slot 0", () -> new LiftScheduler().restore(0));
    }

    // ---- promise 2 ----

    /** One byte that is no token stands among spaces; the error tells where it came to stand. */
    private static void byteOrder() {
        oneByteEach('A');
    }

    /** Without the sign bit the second one is a space. */
    private static void bytesOver127() {
        oneByteEach(0x80);
        oneByteEach(0xa0);
        oneByteEach(0xff);
    }

    private static void oneByteEach(int value) {
        for (int place = 0; place < 20; place++) {
            int[] words = {SPACES, SPACES, SPACES, SPACES, SPACES};
            int shift = 24 - place % 4 * 8;
            words[place / 4] = SPACES & ~(0xff << shift) | value << shift;
            LiftScheduler lift = new LiftScheduler();
            lift.append(words[0], words[1], words[2], words[3], words[4]);
            Check.wrongArgument("byte " + place, lift::load);
            Check.same("code of byte " + place, lift.parseError(), 1);
            Check.same("position of byte " + place, lift.parseErrorPosition(), place);
        }
    }

    private static void newNumberOfBytes() {
        LiftScheduler lift = new LiftScheduler();
        Check.same("the first", lift.append(-1, -1, -1, -1, -1), 20);
        Check.same("the second", lift.append(0, 0, 0, 0, 0), 40);
        lift.truncate(1);
        Check.same("behind one byte", lift.append(0, 0, 0, 0, 0), 21);
        lift.truncate(0);
        Check.same("behind none", lift.append(0, 0, 0, 0, 0), 20);
    }

    private static void bufferBecomesFull() {
        LiftScheduler lift = filled(480);
        Check.same("append at 480", lift.append(0, 0, 0, 0, 0), 500);
        lift.truncate(479);
        Check.same("append at 479", lift.append(0, 0, 0, 0, 0), 499);
    }

    private static void tooManyBytes() {
        for (int bytes : new int[] {481, 482, 499, 500}) {
            LiftScheduler lift = filled(bytes);
            Check.same("append at " + bytes, lift.append(0, 0, 0, 0, 0), NONE);
            Check.same("again at " + bytes, lift.append(0, 0, 0, 0, 0), NONE);
        }
    }

    private static void refusedBytes() {
        LiftScheduler lift = new LiftScheduler();
        Check.type(lift, HEAD + " ".repeat(481 - HEAD.length()));
        lift.append(-1, -1, -1, -1, -1);
        Check.holdsBytes("after the refusal", lift, 481);
        Check.same("what stood there", lift.load(), 0);
        LiftScheduler full = new LiftScheduler();
        Check.type(full, HEAD + " ".repeat(500 - HEAD.length()));
        full.append(-1, -1, -1, -1, -1);
        Check.holdsBytes("after the refusal, full", full, 500);
        Check.same("what stood there, full", full.load(), 0);
    }

    // ---- promise 3 ----

    private static void truncatedToNothing() {
        Check.same("0 of 0", new LiftScheduler().truncate(0), true);
        LiftScheduler lift = filled(500);
        Check.same("0 of 500", lift.truncate(0), true);
        Check.holdsBytes("after that", lift, 0);
    }

    private static void truncatedToAll() {
        for (int bytes : new int[] {1, 20, 499, 500}) {
            LiftScheduler lift = filled(bytes);
            Check.same(bytes + " of " + bytes, lift.truncate(bytes), true);
            Check.same("one less than " + bytes, lift.truncate(bytes - 1), true);
            Check.holdsBytes("after that", lift, bytes - 1);
        }
    }

    private static void truncatedBelowNothing() {
        LiftScheduler lift = filled(20);
        Check.same("-1 of 20", lift.truncate(-1), false);
        Check.same("least of 20", lift.truncate(Integer.MIN_VALUE), false);
        Check.same("-1 of 0", new LiftScheduler().truncate(-1), false);
    }

    private static void truncatedAboveAll() {
        LiftScheduler lift = filled(20);
        Check.same("21 of 20", lift.truncate(21), false);
        Check.same("500 of 20", lift.truncate(500), false);
        Check.same("greatest of 20", lift.truncate(Integer.MAX_VALUE), false);
        Check.same("1 of 0", new LiftScheduler().truncate(1), false);
        Check.same("501 of 500", filled(500).truncate(501), false);
    }

    private static void refusedTruncation() {
        LiftScheduler lift = new LiftScheduler();
        Check.type(lift, HEAD);
        lift.truncate(-1);
        lift.truncate(17);
        lift.truncate(Integer.MIN_VALUE);
        Check.holdsBytes("after the refusals", lift, 16);
        Check.same("what stood there", lift.load(), 0);
    }

    private static void shortened() {
        LiftScheduler lift = new LiftScheduler();
        Check.type(lift, HEAD + "call 0 1;");
        lift.truncate(16);
        Check.same("the bytes do not come back", lift.truncate(25), false);
        Check.same("what was left", lift.load(), 0);
        Check.type(lift, HEAD);
        lift.truncate(15);
        Check.wrongArgument("without its last byte", lift::load);
        Check.same("it ends there", lift.parseErrorPosition(), 15);
    }

    // ---- promise 4 ----

    private static void bufferAfterLoad() {
        LiftScheduler lift = Check.loaded(HEAD);
        Check.holdsBytes("after load", lift, 0);
        Check.same("append", lift.append(0, 0, 0, 0, 0), 20);
    }

    private static void loadOfFullBuffer() {
        LiftScheduler lift = new LiftScheduler();
        String text = HEAD + "run 1;".repeat(80);
        Check.type(lift, text + "run ");
        Check.wrongArgument("a command that ends too early", lift::load);
        Check.same("position", lift.parseErrorPosition(), 500);
        Check.type(lift, text + "   \n");
        Check.same("500 bytes", lift.truncate(500), true);
        Check.same("load", lift.load(), 0);
        Check.same("the last command", lift.time(), 80);
        Check.type(lift, HEAD + " ".repeat(475) + "call 9 8;");
        Check.same("a command at the last bytes", lift.load(), 1);
    }

    private static void loadOfEmptyBuffer() {
        LiftScheduler lift = new LiftScheduler();
        Check.wrongArgument("load", lift::load);
        Check.same("code", lift.parseError(), 1);
        Check.same("position", lift.parseErrorPosition(), 0);
        Check.type(lift, HEAD);
        lift.load();
        Check.wrongArgument("load of nothing more", lift::load);
    }

    private static void loadReplacesAll() {
        LiftScheduler lift = Check.loaded("lift 20 1 sweep; run 3; call 9 3; finish; call 0 4; call 4 0; run 5;");
        Check.same("before", Check.state(lift), "20 1 2 25 1 true 19 3 3 2:"
                + " 9>3@3/12/19 0>4@20/23/-1 4>0@20/-1/-1");
        Check.same("riders before", lift.isFull(), true);
        Check.type(lift, "lift 2 1 nearest;");
        lift.load();
        Check.same("state", Check.state(lift), "2 1 1 0 0 true 0 0 0 0:");
        Check.same("riders", lift.isFull(), false);
        Check.same("all are done", lift.isFinished(), true);
        Check.same("nobody is done", lift.countStatus(LiftScheduler.DONE), 0);
    }

    private static void noUndoAfterLoad() {
        LiftScheduler lift = new LiftScheduler();
        for (int i = 0; i < 9; i++) {
            lift.run(1);
        }
        Check.type(lift, HEAD);
        lift.load();
        Check.same("undoDepth", lift.undoDepth(), 0);
        Check.wrongState("undo", lift::undo);
        lift.run(1);
        Check.same("a change since then", lift.undo(), 0);
        Check.same("its state", Check.state(lift), "10 4 2 0 0 true 0 0 0 0:");
    }

    private static void emptySlotsAfterLoad() {
        LiftScheduler lift = new LiftScheduler();
        lift.save(0);
        lift.save(1);
        Check.type(lift, HEAD);
        lift.load();
        Check.wrongState("restore(0)", () -> lift.restore(0));
        Check.wrongState("restore(1)", () -> lift.restore(1));
        Check.same("save(0)", lift.save(0), true);
        Check.same("save(1)", lift.save(1), true);
    }

    private static void failedLoadKeepsUndoAndSlots() {
        LiftScheduler lift = new LiftScheduler();
        lift.run(3);
        lift.save(0);
        lift.run(4);
        lift.save(1);
        Check.type(lift, HEAD + "run 0;");
        Check.wrongArgument("load", lift::load);
        Check.same("undoDepth", lift.undoDepth(), 2);
        Check.same("undo", lift.undo(), 1);
        Check.same("time before", lift.time(), 3);
        Check.same("save(0)", lift.save(0), false);
        Check.same("restore(1)", lift.restore(1), 7);
    }

    private static void loadOfNobody() {
        LiftScheduler lift = new LiftScheduler();
        lift.addPassenger(0, 1, 0);
        Check.type(lift, HEAD);
        Check.same("load", lift.load(), 0);
        Check.same("passengerCount", lift.passengerCount(), 0);
    }

    private static void loadOf40() {
        LiftScheduler lift = new LiftScheduler();
        Check.type(lift, HEAD + "call 0 1;".repeat(40));
        Check.same("load", lift.load(), 40);
        Check.same("passengerCount", lift.passengerCount(), 40);
    }

    private static void stateAfterFailedLoad() {
        LiftScheduler lift = Check.loaded("lift 20 1 first; call 0 9; call 9 1 at 4; run 6;");
        lift.writeBuilding();
        String before = Check.state(lift);
        for (String text : new String[] {"", "lift", "lift 2 2 nearest", "lift 2 2 nearest; run 0",
            "lift 2 2 nearest; call 1 0; run 9; expect done 2;"}) {
            Check.type(lift, text);
            Check.wrongArgument("load of " + text, lift::load);
            Check.same("state after " + text, Check.state(lift), before);
            Check.same("output after " + text, lift.outputByte(1), ',');
        }
        Check.same("it goes on as before", lift.runToEnd(), 14);
    }

    private static void bufferAfterFailedLoad() {
        LiftScheduler lift = filled(500);
        Check.wrongArgument("load", lift::load);
        Check.holdsBytes("after load", lift, 0);
    }

    // ---- promise 5 ----

    private static void bufferAfterPlay() {
        LiftScheduler lift = new LiftScheduler();
        Check.play(lift, "run 1;" + " ".repeat(494));
        Check.holdsBytes("after play", lift, 0);
        Check.same("append", lift.append(0, 0, 0, 0, 0), 20);
    }

    private static void playOfMuchIsOneChange() {
        LiftScheduler lift = new LiftScheduler();
        Check.play(lift, "repeat 9 (call 1 2; run 1;); policy first; capacity 8; reverse; finish;");
        Check.same("undoDepth", lift.undoDepth(), 1);
        Check.same("undo", lift.undo(), 0);
        Check.same("state", Check.state(lift), "10 4 2 0 0 true 0 0 0 0:");
    }

    private static void playOfNothingIsOneChange() {
        LiftScheduler lift = new LiftScheduler();
        Check.play(lift, "");
        Check.same("an empty script", lift.undoDepth(), 1);
        Check.play(lift, "expect time 0;");
        Check.same("a script that changes nothing", lift.undoDepth(), 2);
        Check.play(lift, "repeat 9 ();");
        Check.same("a script of no simple command", lift.undoDepth(), 3);
    }

    private static void playOfNoCommands() {
        LiftScheduler lift = new LiftScheduler();
        Check.same("an empty script", Check.play(lift, ""), 0);
        Check.same("a script of spaces", Check.play(lift, " \t\n"), 0);
        Check.same("empty brackets", Check.play(lift, "repeat 9 (); repeat 1 ();"), 0);
        Check.same("no error", lift.parseError(), 0);
    }

    private static void playOfMostCommands() {
        LiftScheduler lift = new LiftScheduler();
        Check.same("nine times", Check.play(lift, "repeat 9 (run 1;);"), 9);
        Check.same("once", Check.play(lift, "repeat 1 (run 1;);"), 1);
        Check.same("of 500 bytes", Check.play(lift, "repeat 9(" + "reverse;".repeat(61) + ");"), 549);
        Check.same("the next script counts anew", Check.play(lift, "run 1; reverse;"), 2);
    }

    private static void playOfFullBuffer() {
        LiftScheduler lift = new LiftScheduler();
        Check.type(lift, "run 1;".repeat(83) + " ;");
        Check.same("500 bytes", lift.truncate(500), true);
        Check.wrongArgument("play", lift::play);
        Check.same("position", lift.parseErrorPosition(), 499);
        Check.same("83 commands", Check.play(lift, "run 1;".repeat(83) + "\n\n"), 83);
    }

    private static void stateAfterFailedPlay() {
        LiftScheduler lift = Check.loaded("lift 20 1 first; call 0 9; call 9 1 at 4; run 6;");
        String before = Check.state(lift);
        for (String script : new String[] {"run", "run 9", "call 1 2; capacity 8; run 2; run 0;",
            "reverse; policy nearest; finish; expect done 3;", "repeat 9 (run 200;);"}) {
            Check.wrongArgument("play of " + script, () -> Check.play(lift, script));
            Check.same("state after " + script, Check.state(lift), before);
        }
        Check.same("it goes on as before", lift.runToEnd(), 14);
    }

    private static void bufferAfterFailedPlay() {
        LiftScheduler lift = filled(500);
        Check.wrongArgument("play", lift::play);
        Check.holdsBytes("after play", lift, 0);
        Check.same("nothing is left to play", lift.play(), 0);
    }

    private static void failedPlayIsNoChange() {
        LiftScheduler lift = new LiftScheduler();
        Check.wrongArgument("play", () -> Check.play(lift, "run 1; run 0;"));
        Check.same("undoDepth", lift.undoDepth(), 0);
        for (int i = 0; i < 8; i++) {
            lift.run(1);
        }
        Check.wrongArgument("play after 8 changes", () -> Check.play(lift, "run 1; run 0;"));
        for (int i = 7; i >= 0; i--) {
            lift.undo();
            Check.same("the changes before it", lift.time(), i);
        }
    }

    private static void playOfText() {
        LiftScheduler lift = new LiftScheduler();
        Check.wrongArgument("play", () -> Check.play(lift, HEAD));
        Check.same("code", lift.parseError(), 1);
        Check.same("position", lift.parseErrorPosition(), 0);
        Check.errorOf("a script is no text", "run 1;", 1, 0);
    }

    // ---- promises 6 and 7 ----

    private static void everyCode() {
        LiftScheduler lift = new LiftScheduler();
        String[] scripts = {"walk;", "run 0;", "call 0 1;".repeat(41), "run 999; run 1;", "expect time 1;"};
        for (int i = 0; i < scripts.length; i++) {
            String script = scripts[i];
            Check.wrongArgument(script, () -> Check.play(lift, script));
            Check.same("code of play of " + script, lift.parseError(), i + 1);
            Check.type(lift, HEAD + script);
            Check.wrongArgument(script, lift::load);
            Check.same("code of load of " + script, lift.parseError(), i + 1);
        }
    }

    private static void noCallYet() {
        LiftScheduler lift = new LiftScheduler();
        lift.append(-1, -1, -1, -1, -1);
        Check.same("parseError", lift.parseError(), 0);
        Check.same("parseErrorPosition", lift.parseErrorPosition(), NONE);
    }

    private static void latestError() {
        LiftScheduler lift = new LiftScheduler();
        Check.wrongArgument("play", () -> Check.play(lift, "run 0;"));
        Check.type(lift, "lift 10 4 x;");
        Check.wrongArgument("load", lift::load);
        Check.same("code of load", lift.parseError(), 1);
        Check.same("position of load", lift.parseErrorPosition(), 10);
        Check.wrongArgument("play", () -> Check.play(lift, "expect time 1;"));
        Check.same("code of play", lift.parseError(), 5);
        Check.same("position of play", lift.parseErrorPosition(), 0);
    }

    private static void errorAfterLoad() {
        LiftScheduler lift = new LiftScheduler();
        Check.wrongArgument("load", lift::load);
        Check.type(lift, HEAD);
        lift.load();
        Check.same("parseError", lift.parseError(), 0);
        Check.same("parseErrorPosition", lift.parseErrorPosition(), NONE);
    }

    private static void errorAfterPlay() {
        LiftScheduler lift = new LiftScheduler();
        Check.wrongArgument("play", () -> Check.play(lift, "run 0;"));
        lift.play();
        Check.same("parseError", lift.parseError(), 0);
        Check.same("parseErrorPosition", lift.parseErrorPosition(), NONE);
    }

    private static void errorsOfOtherCalls() {
        LiftScheduler lift = new LiftScheduler();
        Check.wrongArgument("run", () -> lift.run(0));
        Check.same("no error of run", lift.parseError(), 0);
        Check.wrongArgument("play", () -> Check.play(lift, "run 0;"));
        lift.run(1);
        lift.save(0);
        lift.undo();
        lift.restore(0);
        lift.append(0, 0, 0, 0, 0);
        Check.same("parseError", lift.parseError(), 2);
        Check.same("parseErrorPosition", lift.parseErrorPosition(), 4);
    }

    private static void firstPosition() {
        Check.errorOf("byte 0", "\0" + HEAD, 1, 0);
        Check.errorOf("a word at byte 0", "lifts 10 4 sweep;", 1, 0);
    }

    private static void lastPosition() {
        Check.errorOf("byte 499", HEAD + " ".repeat(483) + "x", 1, 499);
        Check.errorOf("byte 480", HEAD + " ".repeat(464) + "x" + " ".repeat(19), 1, 480);
    }

    private static void positionBehindAll() {
        Check.errorOf("500 bytes", HEAD + " ".repeat(481) + "run", 1, 500);
        Check.errorOf("500 bytes and spaces behind", HEAD + "run" + " ".repeat(481), 1, 500);
        Check.errorOf("20 bytes", HEAD + "run ", 1, 20);
        Check.errorOf("1 byte", " ", 1, 1);
    }

    /** A new object with so many bytes 0 in its buffer. */
    private static LiftScheduler filled(int bytes) {
        LiftScheduler lift = new LiftScheduler();
        for (int n = 0; n * 20 < bytes; n++) {
            lift.append(0, 0, 0, 0, 0);
        }
        lift.truncate(bytes);
        return lift;
    }
}
