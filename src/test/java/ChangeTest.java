/** Promises 54 to 65: changes, undo, slots and the output text. */
public final class ChangeTest {
    private static final int NONE = LiftScheduler.NONE;
    private static final String THREE = "lift 10 4 sweep; call 3 7; call 1 0; call 5 2 at 4;";

    public static void main(String[] args) {
        adding();
        addingWrongly();
        running();
        runningToEnd();
        settingPolicy();
        settingCapacity();
        undoing();
        undoingManyChanges();
        whatUndoKeeps();
        failuresAreNoChanges();
        slots();
        restoring();
        statusText();
        buildingText();
        outputBytes();
        Check.end();
    }

    private static void adding() {
        LiftScheduler lift = new LiftScheduler();
        Check.same("first number", lift.addPassenger(0, 9, 0), 0);
        Check.same("second number", lift.addPassenger(9, 0, 999), 1);
        lift.run(5);
        Check.same("at the present time", lift.addPassenger(3, 4, 5), 2);
        Check.same("added", Check.state(lift),
                "10 4 2 5 4 true 4 1 0 0: 0>9@0/0/-1 9>0@999/-1/-1 3>4@5/-1/-1");
        Check.same("changes", lift.undoDepth(), 4);
        lift.run(994);
        Check.same("at the last time", lift.addPassenger(1, 2, 999), 3);
    }

    private static void addingWrongly() {
        LiftScheduler lift = Check.loaded("lift 5 4 sweep; run 7;");
        Check.outOfBounds("origin -1", () -> lift.addPassenger(-1, 2, 7));
        Check.outOfBounds("origin 5", () -> lift.addPassenger(5, 2, 7));
        Check.outOfBounds("destination -1", () -> lift.addPassenger(2, -1, 7));
        Check.outOfBounds("destination 5", () -> lift.addPassenger(2, 5, 7));
        Check.outOfBounds("no floor twice", () -> lift.addPassenger(5, 5, 1000));
        Check.wrongArgument("same floor", () -> lift.addPassenger(2, 2, 7));
        Check.wrongArgument("arrival before", () -> lift.addPassenger(1, 2, 6));
        Check.wrongArgument("arrival 1000", () -> lift.addPassenger(1, 2, 1000));
        Check.wrongArgument("arrival -1", () -> lift.addPassenger(1, 2, -1));
        Check.same("nobody was added", lift.passengerCount(), 0);
        for (int i = 0; i < 40; i++) {
            Check.same("number", lift.addPassenger(1, 2, 7), i);
        }
        Check.wrongState("41st passenger", () -> lift.addPassenger(1, 2, 7));
        Check.wrongArgument("41st, same floor", () -> lift.addPassenger(2, 2, 7));
        Check.wrongArgument("41st, arrival", () -> lift.addPassenger(1, 2, 6));
        Check.outOfBounds("41st, origin", () -> lift.addPassenger(5, 2, 7));
        Check.same("still 40", lift.passengerCount(), 40);
    }

    private static void running() {
        LiftScheduler lift = Check.loaded(THREE);
        Check.same("run(4)", lift.run(4), 3);
        Check.same("time", lift.time(), 4);
        Check.same("run(1)", lift.run(1), 3);
        Check.wrongArgument("run(0)", () -> lift.run(0));
        Check.wrongArgument("run(-1)", () -> lift.run(-1));
        Check.wrongArgument("run(1000)", () -> lift.run(1000));
        Check.wrongArgument("run(greatest)", () -> lift.run(Integer.MAX_VALUE));
        Check.wrongState("run(995)", () -> lift.run(995));
        Check.wrongState("run(999)", () -> lift.run(999));
        Check.same("run(994)", lift.run(994), 0);
        Check.same("time", lift.time(), 999);
        Check.wrongState("run(1) at the end", () -> lift.run(1));
        Check.wrongArgument("run(0) at the end", () -> lift.run(0));
        Check.same("run(999)", new LiftScheduler().run(999), 0);
    }

    private static void runningToEnd() {
        LiftScheduler lift = Check.loaded(THREE);
        Check.same("runToEnd", lift.runToEnd(), 20);
        Check.same("time", lift.time(), 20);
        Check.same("a change", lift.undoDepth(), 1);
        Check.same("runToEnd again", lift.runToEnd(), 0);
        Check.same("a change of 0 ticks", lift.undoDepth(), 2);
        lift.addPassenger(9, 0, 990);
        Check.same("runToEnd up to 999", lift.runToEnd(), 979);
        Check.same("the last time", lift.time(), 999);
        Check.same("not finished", lift.isFinished(), false);
        Check.same("runToEnd at 999", lift.runToEnd(), 0);
    }

    private static void settingPolicy() {
        LiftScheduler lift = new LiftScheduler();
        Check.same("setPolicy(0)", lift.setPolicy(0), 2);
        Check.same("setPolicy(1)", lift.setPolicy(1), 0);
        Check.same("the same policy", lift.setPolicy(1), 1);
        Check.same("setPolicy(2)", lift.setPolicy(2), 1);
        Check.same("four changes", lift.undoDepth(), 4);
        Check.wrongArgument("setPolicy(3)", () -> lift.setPolicy(3));
        Check.wrongArgument("setPolicy(-1)", () -> lift.setPolicy(-1));
        Check.same("policy", lift.policy(), 2);
        lift.undo();
        Check.same("policy before", lift.policy(), 1);
    }

    private static void settingCapacity() {
        LiftScheduler lift = Check.loaded("lift 10 4 sweep; call 0 9; call 0 8; run 1;");
        Check.same("setCapacity(8)", lift.setCapacity(8), 4);
        Check.same("setCapacity(2)", lift.setCapacity(2), 8);
        Check.same("the same capacity", lift.setCapacity(2), 2);
        Check.wrongState("setCapacity(1)", () -> lift.setCapacity(1));
        Check.wrongArgument("setCapacity(0)", () -> lift.setCapacity(0));
        Check.wrongArgument("setCapacity(-5)", () -> lift.setCapacity(-5));
        Check.wrongArgument("setCapacity(9)", () -> lift.setCapacity(9));
        Check.same("capacity", lift.capacity(), 2);
        Check.same("three changes", lift.undoDepth(), 3);
        lift.runToEnd();
        Check.same("setCapacity(1) of the empty lift", lift.setCapacity(1), 2);
    }

    private static void undoing() {
        LiftScheduler lift = new LiftScheduler();
        Check.wrongState("nothing to undo", lift::undo);
        String[] states = new String[7];
        states[0] = Check.state(lift);
        lift.addPassenger(4, 0, 0);
        states[1] = Check.state(lift);
        lift.run(7);
        states[2] = Check.state(lift);
        lift.setPolicy(0);
        states[3] = Check.state(lift);
        lift.setCapacity(7);
        states[4] = Check.state(lift);
        Check.play(lift, "reverse; run 3; call 2 3 at 11; call 2 3;");
        states[5] = Check.state(lift);
        lift.runToEnd();
        for (int depth = 5; depth >= 0; depth--) {
            Check.same("undo", lift.undo(), depth);
            Check.same("undoDepth", lift.undoDepth(), depth);
            Check.same("state " + depth, Check.state(lift), states[depth]);
        }
        Check.wrongState("nothing more to undo", lift::undo);
        Check.same("undoDepth", lift.undoDepth(), 0);
    }

    private static void undoingManyChanges() {
        LiftScheduler lift = new LiftScheduler();
        for (int i = 1; i <= 20; i++) {
            lift.run(1);
            Check.same("undoDepth after " + i, lift.undoDepth(), Math.min(i, 8));
        }
        Check.same("undo", lift.undo(), 7);
        Check.same("undo", lift.undo(), 6);
        lift.setCapacity(5);
        lift.setCapacity(6);
        lift.setCapacity(7);
        Check.same("undoDepth", lift.undoDepth(), 8);
        for (int i = 7; i >= 0; i--) {
            Check.same("undo", lift.undo(), i);
        }
        Check.same("the time 8 changes ago", lift.time(), 13);
        Check.same("the capacity 8 changes ago", lift.capacity(), 4);
        Check.wrongState("a ninth undo", lift::undo);
        Check.same("state stays", lift.time(), 13);
    }

    private static void whatUndoKeeps() {
        LiftScheduler lift = new LiftScheduler();
        lift.run(3);
        lift.save(1);
        lift.writeBuilding();
        Check.wrongArgument("play", () -> Check.play(lift, "run 1000;"));
        lift.append(0, 0, 0, 0, 0);
        lift.undo();
        Check.same("output stays", lift.outputByte(1), '*');
        Check.same("parse error stays", lift.parseError(), 2);
        Check.same("position stays", lift.parseErrorPosition(), 4);
        Check.same("buffer stays", lift.truncate(20), true);
        Check.same("slot stays", lift.restore(1), 3);
        Check.same("output stays after restore", lift.outputByte(1), '*');
        Check.same("parse error stays after restore", lift.parseError(), 2);
        Check.same("buffer stays after restore", lift.truncate(20), true);
        Check.same("restore cannot be undone", lift.undoDepth(), 0);
    }

    private static void failuresAreNoChanges() {
        LiftScheduler lift = Check.loaded("lift 10 4 sweep; call 0 9; call 0 9; run 1;");
        String before = Check.state(lift);
        Check.wrongArgument("run", () -> lift.run(0));
        Check.wrongState("run", () -> lift.run(999));
        Check.wrongArgument("setPolicy", () -> lift.setPolicy(7));
        Check.wrongState("setCapacity", () -> lift.setCapacity(1));
        Check.wrongArgument("setCapacity", () -> lift.setCapacity(9));
        Check.outOfBounds("addPassenger", () -> lift.addPassenger(10, 0, 1));
        Check.wrongArgument("addPassenger", () -> lift.addPassenger(1, 0, 0));
        Check.wrongArgument("play", () -> Check.play(lift, "run 1; foo;"));
        Check.wrongArgument("load", () -> Check.play(lift, "lift 3 3 sweep; foo;"));
        Check.wrongState("undo", lift::undo);
        Check.wrongState("restore", () -> lift.restore(0));
        Check.same("no change", lift.undoDepth(), 0);
        Check.same("state stays", Check.state(lift), before);
    }

    private static void slots() {
        LiftScheduler lift = new LiftScheduler();
        Check.same("save(0)", lift.save(0), true);
        Check.same("save(1)", lift.save(1), true);
        lift.run(5);
        Check.same("save(1) again", lift.save(1), false);
        lift.run(5);
        Check.same("saving is no change", lift.undoDepth(), 2);
        Check.same("restore(1)", lift.restore(1), 5);
        Check.same("restore(0)", lift.restore(0), 0);
        Check.same("restore(1) again", lift.restore(1), 5);
        for (int wrong : new int[] {-1, 2, Integer.MIN_VALUE, Integer.MAX_VALUE}) {
            Check.outOfBounds("save " + wrong, () -> lift.save(wrong));
            Check.outOfBounds("restore " + wrong, () -> lift.restore(wrong));
        }
    }

    private static void restoring() {
        LiftScheduler lift = Check.loaded(THREE);
        lift.run(8);
        String saved = Check.state(lift);
        lift.save(0);
        lift.setPolicy(1);
        lift.setCapacity(8);
        lift.addPassenger(9, 8, 500);
        lift.runToEnd();
        Check.wrongState("restore(1)", () -> lift.restore(1));
        Check.same("changes stay", lift.undoDepth(), 5);
        Check.same("restore(0)", lift.restore(0), 8);
        Check.same("restored", Check.state(lift), saved);
        Check.wrongState("no change to undo", lift::undo);
        lift.run(1);
        Check.same("a change since", lift.undoDepth(), 1);
        Check.same("the slot keeps it", lift.save(0), false);
        lift.run(1);
        Check.same("restore(0) of what replaced it", lift.restore(0), 9);
        lift.runToEnd();
        Check.same("it goes on as before", lift.leftAt(1), 19);
    }

    private static void statusText() {
        LiftScheduler lift = new LiftScheduler();
        Check.same("writeStatus of nobody", lift.writeStatus(), 0);
        Check.same("no byte", lift.outputByte(0), NONE);
        lift = Check.loaded(THREE + "call 8 9 at 11;");
        Check.same("writeStatus at 0", lift.writeStatus(), 4);
        Check.same("text at 0", Check.output(lift, 4), "ww..");
        lift.run(11);
        Check.same("writeStatus at 11", lift.writeStatus(), 4);
        Check.same("text at 11", Check.output(lift, 4), "drrw");
        Check.same("writing is no change", lift.undoDepth(), 1);
    }

    private static void buildingText() {
        LiftScheduler lift = Check.loaded(THREE);
        lift.run(4);
        Check.same("writeBuilding at 4", lift.writeBuilding(), 21);
        Check.same("text at 4", Check.output(lift, 21), "0,0,0,1*1,0,1,0,0,0,0");
        LiftScheduler small = Check.loaded("lift 2 8 first;");
        Check.same("writeBuilding of nobody", small.writeBuilding(), 5);
        Check.same("text of nobody", Check.output(small, 5), "0*0,0");
        for (int i = 0; i < 39; i++) {
            small.addPassenger(1, 0, 0);
        }
        small.addPassenger(0, 1, 0);
        Check.same("writeBuilding of 40", small.writeBuilding(), 6);
        Check.same("text of 40", Check.output(small, 6), "1*0,39");
        small.run(3);
        Check.same("writeBuilding with riders", small.writeBuilding(), 6);
        Check.same("text with riders", Check.output(small, 6), "0,31*8");
        LiftScheduler tall = Check.loaded("lift 20 1 sweep; repeat 9 (call 18 1; call 4 1; call 5 2;"
                + "call 9 3;); call 9 1; call 4 1; call 5 1; call 18 1;");
        Check.same("writeBuilding of 20 floors", tall.writeBuilding(), 45);
        Check.same("text of 20 floors", Check.output(tall, 45),
                "0*0,0,0,0,10,10,0,0,0,10,0,0,0,0,0,0,0,0,10,0");
    }

    private static void outputBytes() {
        LiftScheduler lift = Check.loaded(THREE);
        lift.writeBuilding();
        Check.same("first byte", lift.outputByte(0), '0');
        Check.same("second byte", lift.outputByte(1), '*');
        Check.same("last byte", lift.outputByte(20), '0');
        Check.same("byte behind", lift.outputByte(21), NONE);
        Check.same("byte -1", lift.outputByte(-1), NONE);
        Check.same("least index", lift.outputByte(Integer.MIN_VALUE), NONE);
        Check.same("greatest index", lift.outputByte(Integer.MAX_VALUE), NONE);
        lift.writeStatus();
        Check.same("the text written last", lift.outputByte(0), 'w');
        Check.same("nothing of the text before", lift.outputByte(3), NONE);
    }
}
