/** A test for each sentence of promises 54 to 65, and of changes, that names a boundary case. */
public final class BoundaryChangeTest {
    private static final int NONE = LiftScheduler.NONE;
    private static final String HEAD = "lift 10 4 sweep;";
    private static final String NEW_STATE = "10 4 2 0 0 true 0 0 0 0:";
    // Two ride; at time 3 they leave floor 2.
    private static final String RIDERS = HEAD + "call 0 9; call 0 8; run 3;";
    private static final int[] NO_SLOTS = {-1, 2, 8, Integer.MIN_VALUE, Integer.MAX_VALUE};

    public static void main(String[] args) {
        addings();
        runs();
        settings();
        undos();
        slots();
        outputs();
        Check.end();
    }

    private static void addings() {
        Check.holds("54: the number of the passenger, 0 to 39", BoundaryChangeTest::numbers);
        Check.holds("54: origin or destination, lowest and highest", BoundaryChangeTest::outermostFloors);
        Check.holds("54: IndexOutOfBoundsException of origin", BoundaryChangeTest::wrongOrigins);
        Check.holds("54: IndexOutOfBoundsException of destination", BoundaryChangeTest::wrongDestinations);
        Check.holds("54: the destination is the origin", BoundaryChangeTest::sameFloor);
        Check.holds("54: the arrival time, from the present time", BoundaryChangeTest::arrivalFromNow);
        Check.holds("54: the arrival time, to 999", BoundaryChangeTest::arrivalUpTo999);
        Check.holds("54: IllegalStateException if there are 40", BoundaryChangeTest::passenger41);
        Check.holds("54: floors before the arrival", BoundaryChangeTest::floorsBeforeArguments);
        Check.holds("54: arguments before the number", BoundaryChangeTest::argumentsBefore40);
        Check.holds("54: this is a change", BoundaryChangeTest::addingIsChange);
        Check.holds("54: refused, it changes nothing", BoundaryChangeTest::refusedAdding);
    }

    private static void runs() {
        Check.holds("55: the number of ticks, 1 to 999", BoundaryChangeTest::leastAndMostTicks);
        Check.holds("55: IllegalArgumentException", BoundaryChangeTest::wrongTicks);
        Check.holds("55: IllegalStateException if greater than 999", BoundaryChangeTest::ticksBeyond999);
        Check.holds("55: the range before the time", BoundaryChangeTest::rangeBefore999);
        Check.holds("55: the floor of the lift afterwards", BoundaryChangeTest::floorAfterwards);
        Check.holds("55: this is a change", BoundaryChangeTest::runIsChange);
        Check.holds("55: refused, it changes nothing", BoundaryChangeTest::refusedRun);
        Check.holds("56: until all passengers are DONE", BoundaryChangeTest::runUntilDone);
        Check.holds("56: or the time is 999", BoundaryChangeTest::runUntil999);
        Check.holds("56: which may be 0", BoundaryChangeTest::runOfNothing);
        Check.holds("56: this is a change, also of 0 ticks", BoundaryChangeTest::runToEndIsChange);
    }

    private static void settings() {
        Check.holds("57: returns the previous policy", BoundaryChangeTest::previousPolicies);
        Check.holds("57: IllegalArgumentException", BoundaryChangeTest::wrongPolicies);
        Check.holds("57: this is a change, also of the same", BoundaryChangeTest::samePolicyIsChange);
        Check.holds("58: the capacity, 1 to 8, returns the previous", BoundaryChangeTest::previousCapacities);
        Check.holds("58: IllegalArgumentException", BoundaryChangeTest::wrongCapacities);
        Check.holds("58: IllegalStateException if more are riding", BoundaryChangeTest::moreRiders);
        Check.holds("58: as many as are riding", BoundaryChangeTest::asManyRiders);
        Check.holds("58: the range before the riders", BoundaryChangeTest::rangeBeforeRiders);
        Check.holds("58: this is a change, also of the same", BoundaryChangeTest::sameCapacityIsChange);
        Check.holds("57 and 58: refused, they change nothing", BoundaryChangeTest::refusedSettings);
    }

    private static void undos() {
        Check.holds("59: the number that can still be undone", BoundaryChangeTest::undoCounts);
        Check.holds("59: IllegalStateException if there is no change", BoundaryChangeTest::nothingToUndo);
        Check.holds("59: the latest change first", BoundaryChangeTest::latestFirst);
        Check.holds("59: only the 8 latest", BoundaryChangeTest::only8);
        Check.holds("59: the 8 latest, however many there were", BoundaryChangeTest::manyChanges);
        Check.holds("59: changes after undos", BoundaryChangeTest::changesAfterUndo);
        Check.holds("59: undo is no change", BoundaryChangeTest::undoIsNoChange);
        Check.holds("59: the state, and nothing else", BoundaryChangeTest::undoOfStateAlone);
        Check.holds("59: refused, it changes nothing", BoundaryChangeTest::refusedUndo);
        Check.holds("60: 0 to 8", BoundaryChangeTest::depths);
        Check.holds("60: a call that throws is not a change", BoundaryChangeTest::refusedCallsAreNoChanges);
        Check.holds("60: queries and forecasts are no changes", BoundaryChangeTest::queriesAreNoChanges);
    }

    private static void slots() {
        Check.holds("61: true if the slot was empty", BoundaryChangeTest::emptySlots);
        Check.holds("61: a state that was saved there is replaced", BoundaryChangeTest::replacedSlot);
        Check.holds("61: IndexOutOfBoundsException", BoundaryChangeTest::saveInNoSlot);
        Check.holds("61: saving is no change", BoundaryChangeTest::saveIsNoChange);
        Check.holds("61: the slot keeps the state as it was", BoundaryChangeTest::slotIsCopy);
        Check.holds("62: the slot keeps it", BoundaryChangeTest::restoredTwice);
        Check.holds("62: no change can be undone afterwards", BoundaryChangeTest::noUndoAfterRestore);
        Check.holds("62: the time afterwards, 0 to 999", BoundaryChangeTest::timeAfterRestore);
        Check.holds("62: IndexOutOfBoundsException", BoundaryChangeTest::restoreOfNoSlot);
        Check.holds("62: IllegalStateException if the slot is empty", BoundaryChangeTest::restoreOfEmptySlot);
        Check.holds("62: refused, it changes nothing", BoundaryChangeTest::refusedRestore);
        Check.holds("62: the state, and nothing else", BoundaryChangeTest::restoreOfStateAlone);
    }

    private static void outputs() {
        Check.holds("63: without passengers, 0 bytes", BoundaryChangeTest::statusOfNobody);
        Check.holds("63: for each one a byte, of 40", BoundaryChangeTest::statusOf40);
        Check.holds("63: a dot, w, r and d", BoundaryChangeTest::eachStatus);
        Check.holds("64: a comma between two floors, of 2 and 20", BoundaryChangeTest::commas);
        Check.holds("64: behind the floor of the lift, the lowest", BoundaryChangeTest::liftAtLowest);
        Check.holds("64: behind the floor of the lift, the highest", BoundaryChangeTest::liftAtHighest);
        Check.holds("64: the number of riding passengers, 8", BoundaryChangeTest::mostRiders);
        Check.holds("64: numbers of one and two digits", BoundaryChangeTest::waitingNumbers);
        Check.holds("64: waiting passengers alone", BoundaryChangeTest::waitingAlone);
        Check.holds("65: NONE if there is no such byte", BoundaryChangeTest::noSuchByte);
        Check.holds("65: of the output text that was written last", BoundaryChangeTest::writtenLast);
        Check.holds("65: NONE if nothing was written", BoundaryChangeTest::nothingWritten);
        Check.holds("65: the text stays as it was written", BoundaryChangeTest::textStays);
    }

    // ---- promise 54 ----

    private static void numbers() {
        LiftScheduler lift = new LiftScheduler();
        for (int i = 0; i < 40; i++) {
            Check.same("number", lift.addPassenger(i % 10, (i + 1) % 10, 40 - i), i);
        }
        Check.same("passengers", lift.passengerCount(), 40);
    }

    private static void outermostFloors() {
        for (int floors : new int[] {2, 10, 20}) {
            LiftScheduler lift = Check.loaded("lift " + floors + " 4 sweep;");
            Check.same("up", lift.addPassenger(0, floors - 1, 0), 0);
            Check.same("down", lift.addPassenger(floors - 1, 0, 0), 1);
        }
    }

    private static void wrongOrigins() {
        for (int floors : new int[] {2, 10, 20}) {
            LiftScheduler lift = Check.loaded("lift " + floors + " 4 sweep;");
            for (int wrong : new int[] {-1, floors, 20, 40, Integer.MIN_VALUE, Integer.MAX_VALUE}) {
                Check.outOfBounds("origin " + wrong, () -> lift.addPassenger(wrong, 0, 0));
            }
        }
    }

    private static void wrongDestinations() {
        for (int floors : new int[] {2, 10, 20}) {
            LiftScheduler lift = Check.loaded("lift " + floors + " 4 sweep;");
            for (int wrong : new int[] {-1, floors, 20, 40, Integer.MIN_VALUE, Integer.MAX_VALUE}) {
                Check.outOfBounds("destination " + wrong, () -> lift.addPassenger(0, wrong, 0));
            }
        }
    }

    private static void sameFloor() {
        LiftScheduler lift = new LiftScheduler();
        for (int floor = 0; floor < 10; floor++) {
            int same = floor;
            Check.wrongArgument("floor " + floor, () -> lift.addPassenger(same, same, 0));
        }
    }

    private static void arrivalFromNow() {
        LiftScheduler lift = Check.loaded(HEAD + "run 7;");
        Check.wrongArgument("one tick before", () -> lift.addPassenger(0, 1, 6));
        Check.wrongArgument("at 0", () -> lift.addPassenger(0, 1, 0));
        Check.wrongArgument("least", () -> lift.addPassenger(0, 1, Integer.MIN_VALUE));
        Check.same("at the present time", lift.addPassenger(0, 1, 7), 0);
        Check.same("at once", lift.statusOf(0), LiftScheduler.WAITING);
        Check.wrongArgument("-1 at 0", () -> new LiftScheduler().addPassenger(0, 1, -1));
        Check.same("0 at 0", new LiftScheduler().addPassenger(0, 1, 0), 0);
    }

    private static void arrivalUpTo999() {
        LiftScheduler lift = new LiftScheduler();
        Check.same("999", lift.addPassenger(0, 1, 999), 0);
        Check.wrongArgument("1000", () -> lift.addPassenger(0, 1, 1000));
        Check.wrongArgument("greatest", () -> lift.addPassenger(0, 1, Integer.MAX_VALUE));
        lift.run(999);
        Check.same("999 at 999", lift.addPassenger(0, 1, 999), 1);
        Check.wrongArgument("998 at 999", () -> lift.addPassenger(0, 1, 998));
        Check.wrongArgument("1000 at 999", () -> lift.addPassenger(0, 1, 1000));
    }

    private static void passenger41() {
        LiftScheduler lift = Check.loaded(HEAD + "call 0 1;".repeat(39));
        Check.same("the 40th", lift.addPassenger(0, 1, 0), 39);
        Check.wrongState("the 41st", () -> lift.addPassenger(0, 1, 0));
        lift.undo();
        Check.same("the 40th again", lift.addPassenger(0, 1, 0), 39);
    }

    private static void floorsBeforeArguments() {
        LiftScheduler lift = Check.loaded(HEAD + "call 0 1;".repeat(40));
        Check.outOfBounds("the same floor", () -> lift.addPassenger(10, 10, 0));
        Check.outOfBounds("origin and arrival", () -> lift.addPassenger(10, 1, 1000));
        Check.outOfBounds("destination and arrival", () -> lift.addPassenger(1, -1, -1));
        Check.outOfBounds("origin, of 40", () -> lift.addPassenger(-1, 1, 0));
        Check.outOfBounds("destination, of 40", () -> lift.addPassenger(1, 10, 0));
    }

    private static void argumentsBefore40() {
        LiftScheduler lift = Check.loaded(HEAD + "call 0 1;".repeat(40) + "run 5;");
        Check.wrongArgument("the same floor", () -> lift.addPassenger(3, 3, 5));
        Check.wrongArgument("arrival before", () -> lift.addPassenger(3, 4, 4));
        Check.wrongArgument("arrival behind", () -> lift.addPassenger(3, 4, 1000));
        Check.wrongState("nothing else", () -> lift.addPassenger(3, 4, 5));
    }

    private static void addingIsChange() {
        LiftScheduler lift = new LiftScheduler();
        lift.addPassenger(3, 4, 999);
        Check.same("undoDepth", lift.undoDepth(), 1);
        lift.undo();
        Check.same("state", Check.state(lift), NEW_STATE);
    }

    private static void refusedAdding() {
        LiftScheduler lift = Check.loaded(RIDERS);
        String before = Check.everything(lift);
        Check.outOfBounds("origin", () -> lift.addPassenger(10, 1, 3));
        Check.outOfBounds("destination", () -> lift.addPassenger(1, 10, 3));
        Check.wrongArgument("the same floor", () -> lift.addPassenger(1, 1, 3));
        Check.wrongArgument("arrival", () -> lift.addPassenger(1, 2, 2));
        Check.same("all", Check.everything(lift), before);
    }

    // ---- promises 55 and 56 ----

    private static void leastAndMostTicks() {
        LiftScheduler lift = new LiftScheduler();
        lift.run(1);
        Check.same("1", lift.time(), 1);
        lift.run(998);
        Check.same("998 more", lift.time(), 999);
        LiftScheduler most = new LiftScheduler();
        most.run(999);
        Check.same("999", most.time(), 999);
    }

    private static void wrongTicks() {
        LiftScheduler lift = new LiftScheduler();
        for (int wrong : new int[] {0, -1, 1000, Integer.MIN_VALUE, Integer.MAX_VALUE}) {
            Check.wrongArgument("ticks " + wrong, () -> lift.run(wrong));
        }
    }

    private static void ticksBeyond999() {
        LiftScheduler lift = Check.loaded(HEAD + "run 1;");
        Check.wrongState("999 at 1", () -> lift.run(999));
        lift.run(997);
        Check.wrongState("2 at 998", () -> lift.run(2));
        lift.run(1);
        Check.wrongState("1 at 999", () -> lift.run(1));
        Check.wrongState("999 at 999", () -> lift.run(999));
    }

    private static void rangeBefore999() {
        LiftScheduler lift = Check.loaded(HEAD + "run 999;");
        for (int wrong : new int[] {0, -1, 1000, Integer.MIN_VALUE, Integer.MAX_VALUE}) {
            Check.wrongArgument("ticks " + wrong, () -> lift.run(wrong));
        }
    }

    private static void floorAfterwards() {
        LiftScheduler lift = Check.loaded("lift 20 4 sweep; call 19 0;");
        Check.same("on the way", lift.run(18), 18);
        Check.same("the highest", lift.run(1), 19);
        Check.same("on the way back", lift.run(2), 18);
        Check.same("the lowest", lift.run(999 - 21), 0);
    }

    private static void runIsChange() {
        LiftScheduler lift = Check.loaded(RIDERS);
        String before = Check.state(lift);
        lift.run(1);
        Check.same("undoDepth", lift.undoDepth(), 1);
        lift.run(500);
        Check.same("one change, whatever the ticks", lift.undoDepth(), 2);
        lift.undo();
        lift.undo();
        Check.same("state", Check.state(lift), before);
    }

    private static void refusedRun() {
        LiftScheduler lift = Check.loaded(RIDERS);
        String before = Check.everything(lift);
        Check.wrongArgument("0", () -> lift.run(0));
        Check.wrongArgument("1000", () -> lift.run(1000));
        Check.wrongState("997", () -> lift.run(997));
        Check.same("all", Check.everything(lift), before);
    }

    private static void runUntilDone() {
        LiftScheduler lift = Check.loaded(HEAD + "call 0 1; call 1 0 at 50;");
        Check.same("ticks", lift.runToEnd(), 53);
        Check.same("time", lift.time(), 53);
        Check.same("finished", lift.isFinished(), true);
        Check.same("just at 999", Check.loaded(HEAD + "call 0 1 at 996;").runToEnd(), 999);
    }

    private static void runUntil999() {
        LiftScheduler lift = Check.loaded(HEAD + "call 0 1 at 997;");
        Check.same("ticks", lift.runToEnd(), 999);
        Check.same("time", lift.time(), 999);
        Check.same("not finished", lift.isFinished(), false);
        LiftScheduler later = Check.loaded(HEAD + "run 5; call 0 1 at 999;");
        Check.same("ticks from 5", later.runToEnd(), 994);
    }

    private static void runOfNothing() {
        Check.same("nobody", new LiftScheduler().runToEnd(), 0);
        Check.same("done", Check.loaded(HEAD + "call 0 1; finish;").runToEnd(), 0);
        LiftScheduler last = Check.loaded(HEAD + "run 999; call 0 1;");
        Check.same("at 999", last.runToEnd(), 0);
        Check.same("time", last.time(), 999);
        Check.same("status", last.statusOf(0), LiftScheduler.WAITING);
    }

    private static void runToEndIsChange() {
        LiftScheduler lift = Check.loaded(RIDERS);
        String before = Check.state(lift);
        lift.runToEnd();
        Check.same("undoDepth", lift.undoDepth(), 1);
        lift.runToEnd();
        Check.same("undoDepth of 0 ticks", lift.undoDepth(), 2);
        Check.same("undo", lift.undo(), 1);
        Check.same("finished", lift.isFinished(), true);
        lift.undo();
        Check.same("state", Check.state(lift), before);
    }

    // ---- promises 57 and 58 ----

    private static void previousPolicies() {
        for (int before = 0; before <= 2; before++) {
            for (int after = 0; after <= 2; after++) {
                LiftScheduler lift = new LiftScheduler();
                lift.setPolicy(before);
                Check.same("previous", lift.setPolicy(after), before);
                Check.same("policy", lift.policy(), after);
            }
        }
    }

    private static void wrongPolicies() {
        LiftScheduler lift = new LiftScheduler();
        for (int wrong : new int[] {-1, 3, Integer.MIN_VALUE, Integer.MAX_VALUE}) {
            Check.wrongArgument("policy " + wrong, () -> lift.setPolicy(wrong));
        }
    }

    private static void samePolicyIsChange() {
        LiftScheduler lift = new LiftScheduler();
        lift.setPolicy(2);
        Check.same("undoDepth", lift.undoDepth(), 1);
        lift.setPolicy(0);
        lift.undo();
        Check.same("policy", lift.policy(), 2);
        Check.same("undo of the same", lift.undo(), 0);
        Check.same("state", Check.state(lift), NEW_STATE);
    }

    private static void previousCapacities() {
        LiftScheduler lift = new LiftScheduler();
        Check.same("previous", lift.setCapacity(1), 4);
        for (int capacity = 2; capacity <= 8; capacity++) {
            Check.same("previous", lift.setCapacity(capacity), capacity - 1);
            Check.same("capacity", lift.capacity(), capacity);
        }
    }

    private static void wrongCapacities() {
        LiftScheduler lift = new LiftScheduler();
        for (int wrong : new int[] {0, -1, 9, Integer.MIN_VALUE, Integer.MAX_VALUE}) {
            Check.wrongArgument("capacity " + wrong, () -> lift.setCapacity(wrong));
        }
    }

    private static void moreRiders() {
        LiftScheduler lift = Check.loaded("lift 10 8 sweep; repeat 8 (call 0 9;); run 1;");
        for (int capacity = 1; capacity <= 7; capacity++) {
            int less = capacity;
            Check.wrongState("8 riders, capacity " + less, () -> lift.setCapacity(less));
        }
        lift.runToEnd();
        Check.same("nobody rides", lift.setCapacity(1), 8);
    }

    private static void asManyRiders() {
        for (int riders = 1; riders <= 8; riders++) {
            LiftScheduler lift = Check.loaded("lift 10 8 sweep;" + "call 0 9;".repeat(riders) + "run 1;");
            Check.same("previous", lift.setCapacity(riders), 8);
            Check.same("full", lift.isFull(), true);
        }
    }

    private static void rangeBeforeRiders() {
        LiftScheduler lift = Check.loaded(RIDERS);
        Check.wrongArgument("0", () -> lift.setCapacity(0));
        Check.wrongArgument("-1", () -> lift.setCapacity(-1));
        Check.wrongState("1", () -> lift.setCapacity(1));
    }

    private static void sameCapacityIsChange() {
        LiftScheduler lift = new LiftScheduler();
        lift.setCapacity(4);
        Check.same("undoDepth", lift.undoDepth(), 1);
        lift.setCapacity(8);
        lift.undo();
        Check.same("capacity", lift.capacity(), 4);
        Check.same("undo of the same", lift.undo(), 0);
        Check.same("state", Check.state(lift), NEW_STATE);
    }

    private static void refusedSettings() {
        LiftScheduler lift = Check.loaded(RIDERS);
        String before = Check.everything(lift);
        Check.wrongArgument("policy", () -> lift.setPolicy(3));
        Check.wrongArgument("capacity", () -> lift.setCapacity(9));
        Check.wrongState("capacity of riders", () -> lift.setCapacity(1));
        Check.same("all", Check.everything(lift), before);
    }

    // ---- promises 59 and 60 ----

    private static void undoCounts() {
        LiftScheduler lift = new LiftScheduler();
        for (int i = 0; i < 8; i++) {
            lift.run(1);
        }
        for (int left = 7; left >= 0; left--) {
            Check.same("undo", lift.undo(), left);
            Check.same("undoDepth", lift.undoDepth(), left);
        }
    }

    private static void nothingToUndo() {
        LiftScheduler lift = new LiftScheduler();
        Check.wrongState("new", lift::undo);
        lift.run(1);
        lift.undo();
        Check.wrongState("after one change", lift::undo);
        for (int i = 0; i < 9; i++) {
            lift.run(1);
        }
        for (int i = 0; i < 8; i++) {
            lift.undo();
        }
        Check.wrongState("after nine changes", lift::undo);
        Check.same("the first one stays", lift.time(), 1);
    }

    private static void latestFirst() {
        LiftScheduler lift = new LiftScheduler();
        String[] states = new String[9];
        for (int i = 0; i < 8; i++) {
            states[i] = Check.state(lift);
            change(lift, i);
        }
        for (int i = 7; i >= 0; i--) {
            lift.undo();
            Check.same("state " + i, Check.state(lift), states[i]);
        }
    }

    /** Eight changes of all kinds. */
    private static void change(LiftScheduler lift, int kind) {
        switch (kind) {
            case 0:
                lift.addPassenger(5, 2, 0);
                break;
            case 1:
                lift.addPassenger(7, 9, 3);
                break;
            case 2:
                lift.run(8);
                break;
            case 3:
                lift.setPolicy(1);
                break;
            case 4:
                lift.setCapacity(7);
                break;
            case 5:
                Check.play(lift, "run 2; reverse; call 0 1; policy first; capacity 3; until floor 7;");
                break;
            case 6:
                lift.runToEnd();
                break;
            default:
                Check.play(lift, "reverse;");
        }
    }

    private static void only8() {
        LiftScheduler lift = new LiftScheduler();
        for (int i = 1; i <= 9; i++) {
            lift.run(1);
        }
        Check.same("undoDepth", lift.undoDepth(), 8);
        for (int i = 8; i >= 1; i--) {
            lift.undo();
            Check.same("time", lift.time(), i);
        }
        Check.wrongState("the first one", lift::undo);
    }

    /** The rows of the past are used again and again; each number of changes begins elsewhere. */
    private static void manyChanges() {
        for (int changes = 9; changes <= 26; changes++) {
            LiftScheduler lift = new LiftScheduler();
            for (int i = 0; i < changes; i++) {
                lift.addPassenger(i % 10, (i + 1) % 10, i);
            }
            Check.same("undoDepth after " + changes, lift.undoDepth(), 8);
            for (int i = 1; i <= 8; i++) {
                Check.same("undo", lift.undo(), 8 - i);
                Check.same("passengers", lift.passengerCount(), changes - i);
            }
            Check.wrongState("a ninth", lift::undo);
            Check.same("the last arrival", lift.arrivalOf(changes - 9), changes - 9);
        }
    }

    private static void changesAfterUndo() {
        LiftScheduler lift = new LiftScheduler();
        for (int i = 0; i < 8; i++) {
            lift.run(1);
        }
        for (int i = 0; i < 5; i++) {
            lift.undo();
        }
        lift.run(100);
        Check.same("undoDepth", lift.undoDepth(), 4);
        for (int i = 0; i < 5; i++) {
            lift.run(100);
        }
        Check.same("8 of 9", lift.undoDepth(), 8);
        int[] times = {503, 403, 303, 203, 103, 3, 2, 1};
        for (int time : times) {
            lift.undo();
            Check.same("time", lift.time(), time);
        }
        Check.wrongState("a ninth", lift::undo);
    }

    private static void undoIsNoChange() {
        LiftScheduler lift = new LiftScheduler();
        lift.run(1);
        lift.run(2);
        lift.undo();
        lift.undo();
        Check.wrongState("an undo is not undone", lift::undo);
        Check.same("time", lift.time(), 0);
    }

    private static void undoOfStateAlone() {
        LiftScheduler lift = new LiftScheduler();
        lift.run(3);
        lift.save(1);
        lift.run(4);
        lift.writeBuilding();
        lift.save(0);
        Check.wrongArgument("play", () -> Check.play(lift, "run 1 x"));
        lift.append(0, 0, 0, 0, 0);
        lift.undo();
        lift.undo();
        Check.same("state", Check.everything(lift),
                NEW_STATE + " error 1 at 6 changes 0 output 0*0,0,0,0,0,0,0,0,0,0");
        Check.holdsBytes("buffer", lift, 20);
        Check.same("slot 0", lift.restore(0), 7);
        Check.same("slot 1", lift.restore(1), 3);
    }

    private static void refusedUndo() {
        LiftScheduler lift = Check.loaded(RIDERS);
        lift.save(0);
        lift.append(0, 0, 0, 0, 0);
        String before = Check.everything(lift);
        Check.wrongState("undo", lift::undo);
        Check.same("all", Check.everything(lift), before);
        Check.holdsBytes("buffer", lift, 20);
        Check.same("slot", lift.restore(0), 3);
    }

    private static void depths() {
        LiftScheduler lift = new LiftScheduler();
        Check.same("new", lift.undoDepth(), 0);
        for (int i = 1; i <= 30; i++) {
            lift.run(1);
            Check.same("after " + i, lift.undoDepth(), i < 8 ? i : 8);
        }
    }

    private static void refusedCallsAreNoChanges() {
        LiftScheduler lift = Check.loaded(RIDERS);
        for (int i = 0; i < 7; i++) {
            lift.run(1);
        }
        for (int i = 0; i < 3; i++) {
            Check.outOfBounds("addPassenger", () -> lift.addPassenger(10, 0, 99));
            Check.wrongArgument("run", () -> lift.run(0));
            Check.wrongState("run", () -> lift.run(999));
            Check.wrongArgument("setPolicy", () -> lift.setPolicy(3));
            Check.wrongArgument("setCapacity", () -> lift.setCapacity(0));
            Check.wrongArgument("play", () -> Check.play(lift, "run 1; run 0;"));
            Check.wrongArgument("load", () -> {
                Check.type(lift, HEAD + "run 0;");
                lift.load();
            });
            Check.wrongState("restore", () -> lift.restore(1));
            Check.outOfBounds("save", () -> lift.save(2));
        }
        Check.same("undoDepth", lift.undoDepth(), 7);
        for (int i = 6; i >= 0; i--) {
            lift.undo();
            Check.same("time", lift.time(), 3 + i);
        }
    }

    private static void queriesAreNoChanges() {
        LiftScheduler lift = Check.loaded(RIDERS);
        lift.run(1);
        Check.everything(lift);
        lift.writeStatus();
        lift.writeBuilding();
        lift.bestPolicy();
        lift.ticksWithCapacity(8);
        lift.save(0);
        lift.append(0, 0, 0, 0, 0);
        lift.truncate(0);
        Check.same("undoDepth", lift.undoDepth(), 1);
        lift.undo();
        Check.same("time", lift.time(), 3);
    }

    // ---- promises 61 and 62 ----

    private static void emptySlots() {
        LiftScheduler lift = new LiftScheduler();
        Check.same("slot 1", lift.save(1), true);
        Check.same("slot 1 again", lift.save(1), false);
        Check.same("slot 0", lift.save(0), true);
        Check.same("slot 0 again", lift.save(0), false);
        lift.restore(0);
        Check.same("restored, slot 0", lift.save(0), false);
    }

    private static void replacedSlot() {
        LiftScheduler lift = Check.loaded(HEAD + "call 0 1; call 9 8 at 99;");
        lift.save(0);
        lift.save(1);
        lift.runToEnd();
        String later = Check.state(lift);
        lift.save(0);
        lift.run(1);
        lift.restore(0);
        Check.same("the state that was saved last", Check.state(lift), later);
        Check.same("the other slot", lift.restore(1), 0);
    }

    private static void saveInNoSlot() {
        LiftScheduler lift = new LiftScheduler();
        for (int wrong : NO_SLOTS) {
            Check.outOfBounds("slot " + wrong, () -> lift.save(wrong));
        }
        Check.same("slot 0 is empty", lift.save(0), true);
        Check.same("slot 1 is empty", lift.save(1), true);
    }

    private static void saveIsNoChange() {
        LiftScheduler lift = Check.loaded(RIDERS);
        lift.run(1);
        String before = Check.everything(lift);
        lift.save(0);
        lift.save(0);
        Check.same("all", Check.everything(lift), before);
        Check.same("undo", lift.undo(), 0);
        Check.same("the slot stays", lift.restore(0), 4);
    }

    private static void slotIsCopy() {
        LiftScheduler lift = Check.loaded(RIDERS);
        String saved = Check.state(lift);
        lift.save(1);
        lift.addPassenger(1, 2, 3);
        lift.runToEnd();
        lift.setPolicy(0);
        lift.setCapacity(8);
        lift.restore(1);
        Check.same("state", Check.state(lift), saved);
    }

    private static void restoredTwice() {
        LiftScheduler lift = Check.loaded(RIDERS);
        String saved = Check.state(lift);
        lift.save(0);
        for (int i = 0; i < 3; i++) {
            lift.runToEnd();
            Check.same("restore", lift.restore(0), 3);
            Check.same("state", Check.state(lift), saved);
        }
        Check.same("not empty", lift.save(0), false);
    }

    private static void noUndoAfterRestore() {
        LiftScheduler lift = new LiftScheduler();
        lift.run(1);
        lift.save(0);
        lift.run(1);
        lift.restore(0);
        Check.same("undoDepth", lift.undoDepth(), 0);
        Check.wrongState("undo", lift::undo);
        lift.run(7);
        Check.same("a change since then", lift.undo(), 0);
        Check.same("time", lift.time(), 1);
        Check.wrongState("no change before it", lift::undo);
    }

    private static void timeAfterRestore() {
        LiftScheduler lift = new LiftScheduler();
        lift.save(0);
        lift.run(999);
        lift.save(1);
        Check.same("0", lift.restore(0), 0);
        Check.same("time", lift.time(), 0);
        Check.same("999", lift.restore(1), 999);
        Check.same("time", lift.time(), 999);
    }

    private static void restoreOfNoSlot() {
        LiftScheduler lift = new LiftScheduler();
        lift.save(0);
        lift.save(1);
        for (int wrong : NO_SLOTS) {
            Check.outOfBounds("slot " + wrong, () -> lift.restore(wrong));
            Check.outOfBounds("slot " + wrong + ", all empty", () -> new LiftScheduler().restore(wrong));
        }
    }

    private static void restoreOfEmptySlot() {
        LiftScheduler lift = new LiftScheduler();
        Check.wrongState("slot 0", () -> lift.restore(0));
        Check.wrongState("slot 1", () -> lift.restore(1));
        lift.save(1);
        Check.wrongState("slot 0 beside a filled one", () -> lift.restore(0));
        Check.same("slot 1", lift.restore(1), 0);
    }

    private static void refusedRestore() {
        LiftScheduler lift = Check.loaded(RIDERS);
        lift.run(1);
        lift.save(1);
        lift.run(1);
        String before = Check.everything(lift);
        Check.wrongState("slot 0", () -> lift.restore(0));
        Check.outOfBounds("slot 2", () -> lift.restore(2));
        Check.same("all", Check.everything(lift), before);
        Check.same("undo", lift.undo(), 1);
        Check.same("slot 0 is still empty", lift.save(0), true);
    }

    private static void restoreOfStateAlone() {
        LiftScheduler lift = Check.loaded(RIDERS);
        lift.writeStatus();
        lift.save(0);
        String saved = Check.state(lift);
        lift.runToEnd();
        lift.save(1);
        int later = lift.time();
        lift.writeBuilding();
        Check.wrongArgument("play", () -> Check.play(lift, "run 1 x"));
        lift.append(0, 0, 0, 0, 0);
        lift.restore(0);
        Check.same("all", Check.everything(lift),
                saved + " error 1 at 6 changes 0 output 0,0,0,0,0,0,0,0,0,0*0");
        Check.holdsBytes("buffer", lift, 20);
        Check.same("the other slot", lift.restore(1), later);
    }

    // ---- promises 63 to 65 ----

    private static void statusOfNobody() {
        LiftScheduler lift = new LiftScheduler();
        lift.writeBuilding();
        Check.same("writeStatus", lift.writeStatus(), 0);
        Check.same("byte 0", lift.outputByte(0), NONE);
    }

    private static void statusOf40() {
        LiftScheduler lift = Check.loaded(HEAD + "call 9 1;".repeat(40));
        Check.same("writeStatus", lift.writeStatus(), 40);
        Check.same("text", Check.output(lift, 40), "w".repeat(40));
        Check.same("byte 40", lift.outputByte(40), NONE);
    }

    private static void eachStatus() {
        LiftScheduler lift = Check.loaded(HEAD + "call 5 6 at 99; call 5 6; call 0 9; call 0 1; run 3;");
        Check.same("writeStatus", lift.writeStatus(), 4);
        Check.same("text", Check.output(lift, 4), ".wrd");
        Check.same("dot", lift.outputByte(0), 46);
        Check.same("w", lift.outputByte(1), 119);
        Check.same("r", lift.outputByte(2), 114);
        Check.same("d", lift.outputByte(3), 100);
    }

    private static void commas() {
        building("lift 2 1 first;", "0*0,0");
        building("lift 3 1 first;", "0*0,0,0");
        building("lift 20 1 first;", "0*0" + ",0".repeat(19));
    }

    private static void liftAtLowest() {
        building(HEAD + "call 0 9;", "1*0,0,0,0,0,0,0,0,0,0");
        building(HEAD + "call 0 9; run 1;", "0*1,0,0,0,0,0,0,0,0,0");
    }

    private static void liftAtHighest() {
        building(HEAD + "call 9 0; run 9;", "0,0,0,0,0,0,0,0,0,1*0");
        building(HEAD + "call 9 0; run 10;", "0,0,0,0,0,0,0,0,0,0*1");
        building("lift 20 1 first; call 19 0; run 20;", "0" + ",0".repeat(19) + "*1");
    }

    private static void mostRiders() {
        building("lift 2 8 first; repeat 9 (call 0 1;); run 1;", "1*8,0");
        building("lift 2 8 first; repeat 9 (call 0 1;); run 2;", "1,0*8");
    }

    private static void waitingNumbers() {
        building("lift 2 1 first;" + "call 1 0;".repeat(9), "0*0,9");
        building("lift 2 1 first;" + "call 1 0;".repeat(10), "0*0,10");
        building("lift 2 1 first;" + "call 1 0;".repeat(11), "0*0,11");
        building("lift 2 1 first;" + "call 1 0;".repeat(19), "0*0,19");
        building("lift 2 1 first;" + "call 1 0;".repeat(20), "0*0,20");
        building("lift 2 1 first;" + "call 1 0;".repeat(40), "0*0,40");
        building("lift 2 1 first;" + "call 0 1;".repeat(40), "40*0,0");
        // The longest text: three floors with two digits beside the lift.
        building("lift 20 8 sweep;" + "repeat 9(call 0 1;call 1 2;call 2 3;call 3 4;);"
                + "call 0 1;call 1 2;call 2 3;call 3 4;", "10*0,10,10,10" + ",0".repeat(16));
    }

    private static void waitingAlone() {
        // One is done, one rides, one waits and one is absent; all of them come from floor 0.
        building("lift 5 1 sweep; call 0 1; finish; call 0 2; run 2; call 0 3; call 0 4 at 99;", "1*1,0,0,0,0");
    }

    private static void building(String text, String due) {
        LiftScheduler lift = Check.loaded(text);
        Check.same("writeBuilding of " + text, lift.writeBuilding(), due.length());
        Check.same("text of " + text, Check.output(lift, due.length()), due);
        Check.same("the byte behind it", lift.outputByte(due.length()), NONE);
    }

    private static void noSuchByte() {
        LiftScheduler lift = Check.loaded("lift 2 1 first;");
        lift.writeBuilding();
        Check.same("the first", lift.outputByte(0), '0');
        Check.same("the last", lift.outputByte(4), '0');
        for (int wrong : new int[] {-1, 5, 6, 63, 64, 500, Integer.MIN_VALUE, Integer.MAX_VALUE}) {
            Check.same("byte " + wrong, lift.outputByte(wrong), NONE);
        }
    }

    private static void writtenLast() {
        LiftScheduler lift = Check.loaded(HEAD + "call 9 1;");
        lift.writeBuilding();
        lift.writeStatus();
        Check.same("the status", lift.outputByte(0), 'w');
        Check.same("nothing of the building", lift.outputByte(1), NONE);
        lift.writeBuilding();
        Check.same("the building", lift.outputByte(0), '0');
        Check.same("all of it", lift.outputByte(20), '1');
    }

    private static void nothingWritten() {
        LiftScheduler lift = Check.loaded(RIDERS);
        for (int i = -1; i < 65; i++) {
            Check.same("byte " + i, lift.outputByte(i), NONE);
        }
    }

    private static void textStays() {
        LiftScheduler lift = Check.loaded(RIDERS);
        lift.writeStatus();
        lift.runToEnd();
        lift.save(0);
        lift.restore(0);
        Check.same("after changes", Check.output(lift, 2), "rr");
        Check.type(lift, HEAD);
        lift.load();
        Check.same("after load", Check.output(lift, 2), "rr");
        Check.same("no more", lift.outputByte(2), NONE);
    }
}
