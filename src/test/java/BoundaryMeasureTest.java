import java.util.function.ToIntBiFunction;

/** A test for each sentence of promises 39 to 53 that names a boundary case. */
public final class BoundaryMeasureTest {
    private static final int NONE = LiftScheduler.NONE;
    private static final int FIRST = LiftScheduler.FIRST_COME;
    private static final int NEAREST = LiftScheduler.NEAREST;
    private static final int SWEEP = LiftScheduler.SWEEP;
    private static final String HEAD = "lift 10 4 sweep;";
    // Arrives at 3, boards at 5 and leaves at 10.
    private static final String ONE = HEAD + "call 2 6 at 3;";
    // The lift with room for one stands empty at floor 5 at time 7, with the direction up.
    private static final String AT_5 = "lift 10 1 sweep; call 0 5; finish;";
    // At 999 the one waits at floor 19; 19 moves, doors, 19 moves and doors are left.
    private static final String LATE = "lift 20 1 sweep; call 19 0 at 999;";

    public static void main(String[] args) {
        rides();
        waits();
        Check.holds("46: true if they are DONE", BoundaryMeasureTest::finishedWithTheLast);
        Check.holds("46: also without passengers", BoundaryMeasureTest::finishedWithNobody);
        forecasts();
        forecastsOfPolicies();
        forecastsOfCapacities();
        forecastsOfPassengers();
        Check.end();
    }

    private static void rides() {
        Check.holds("39: over all passengers who are DONE", BoundaryMeasureTest::rideOfDoneAlone);
        Check.holds("39: without any, 0", BoundaryMeasureTest::noRides);
        Check.holds("39: of 40", BoundaryMeasureTest::ridesOf40);
        Check.holds("40: the greatest of a passenger who is DONE", BoundaryMeasureTest::greatestRide);
        Check.holds("40: 0 if there is none", BoundaryMeasureTest::noLongestRide);
        Check.holds("41: the greatest time of leaving", BoundaryMeasureTest::lastDone);
        Check.holds("41: the lowest one of several", BoundaryMeasureTest::lowestLastDone);
        Check.holds("41: NONE if there is none", BoundaryMeasureTest::noLastDone);
        Check.holds("42: the distance divided by the time", BoundaryMeasureTest::shares);
        Check.holds("42: both converted to float", BoundaryMeasureTest::shareOfFloats);
        Check.holds("42: 0.0f at time 0", BoundaryMeasureTest::shareAtTime0);
    }

    private static void waits() {
        Check.holds("43: over all passengers who have boarded", BoundaryMeasureTest::waitOfBoardedAlone);
        Check.holds("43: without any, 0", BoundaryMeasureTest::noWaits);
        Check.holds("43: of 40", BoundaryMeasureTest::waitsOf40);
        Check.holds("44: the greatest of a passenger who has boarded", BoundaryMeasureTest::greatestWait);
        Check.holds("44: 0 if nobody has", BoundaryMeasureTest::noLongestWait);
        Check.holds("45: divided by the number who have boarded", BoundaryMeasureTest::means);
        Check.holds("45: both converted to double", BoundaryMeasureTest::meanOfDoubles);
        Check.holds("45: 0.0 if nobody has", BoundaryMeasureTest::noMean);
    }

    private static void forecasts() {
        Check.holds("forecasts change nothing", BoundaryMeasureTest::forecastsChangeNothing);
        Check.holds("47: until all passengers are DONE", BoundaryMeasureTest::ticksToFinish);
        Check.holds("47: 0 if they are", BoundaryMeasureTest::nothingToFinish);
        Check.holds("47: also beyond the time 999", BoundaryMeasureTest::finishBeyond999);
        Check.holds("47: with those who are absent", BoundaryMeasureTest::finishOfAbsent);
        Check.holds("47: of 40", BoundaryMeasureTest::finishOf40);
    }

    private static void forecastsOfPolicies() {
        wrongPolicies("48: ticksWithPolicy", LiftScheduler::ticksWithPolicy);
        wrongPolicies("49: waitWithPolicy", LiftScheduler::waitWithPolicy);
        wrongPolicies("50: longestWaitWithPolicy", LiftScheduler::longestWaitWithPolicy);
        Check.holds("48: with each policy", BoundaryMeasureTest::ticksOfPolicies);
        Check.holds("48: 0 if all are DONE", BoundaryMeasureTest::noTicksOfPolicies);
        Check.holds("48: also beyond the time 999", BoundaryMeasureTest::ticksBeyond999);
        Check.holds("49: the sum when all passengers are DONE", BoundaryMeasureTest::sumOfAll);
        Check.holds("49: of those who are DONE already", BoundaryMeasureTest::waitsOfDone);
        Check.holds("49: 0 without passengers", BoundaryMeasureTest::waitsOfNobody);
        Check.holds("49: also beyond the time 999", BoundaryMeasureTest::waitsBeyond999);
        Check.holds("50: the greatest when all are DONE", BoundaryMeasureTest::greatestOfAll);
        Check.holds("50: of those who are DONE already", BoundaryMeasureTest::longestOfDone);
        Check.holds("50: 0 without passengers", BoundaryMeasureTest::longestOfNobody);
        Check.holds("50: also beyond the time 999", BoundaryMeasureTest::longestBeyond999);
        Check.holds("51: the smallest value of waitWithPolicy", BoundaryMeasureTest::bestOfThree);
        Check.holds("51: the lowest one of several", BoundaryMeasureTest::lowestOfBest);
        Check.holds("51: whatever the policy is", BoundaryMeasureTest::bestOfAnyPolicy);
    }

    private static void forecastsOfCapacities() {
        Check.holds("52: the capacity, 1 to 8", BoundaryMeasureTest::capacities);
        Check.holds("52: IllegalArgumentException", BoundaryMeasureTest::wrongCapacities);
        Check.holds("52: IllegalStateException if more are riding", BoundaryMeasureTest::moreRiders);
        Check.holds("52: as many as are riding", BoundaryMeasureTest::asManyRiders);
        Check.holds("52: the one that is listed first", BoundaryMeasureTest::rangeBeforeRiders);
        Check.holds("52: 0 if all are DONE", BoundaryMeasureTest::noTicksOfCapacities);
        Check.holds("52: also beyond the time 999", BoundaryMeasureTest::capacityBeyond999);
    }

    private static void forecastsOfPassengers() {
        Check.holds("53: the time at which a passenger will leave", BoundaryMeasureTest::expected);
        Check.holds("53: also if the passenger has left it already", BoundaryMeasureTest::expectedOfDone);
        Check.holds("53: also beyond the time 999", BoundaryMeasureTest::expectedBeyond999);
        Check.holds("53: IndexOutOfBoundsException", BoundaryMeasureTest::expectedOfNone);
    }

    private static void wrongPolicies(String what, ToIntBiFunction<LiftScheduler, Integer> call) {
        Check.holds(what + ": IllegalArgumentException", () -> {
            LiftScheduler lift = Check.loaded(ONE);
            for (int wrong : new int[] {-1, 3, Integer.MIN_VALUE, Integer.MAX_VALUE}) {
                Check.wrongArgument("policy " + wrong, () -> call.applyAsInt(lift, wrong));
                Check.wrongArgument("of nobody, " + wrong, () -> call.applyAsInt(new LiftScheduler(), wrong));
            }
            for (int policy = FIRST; policy <= SWEEP; policy++) {
                call.applyAsInt(lift, policy);
            }
        });
    }

    // ---- promises 39 to 42 ----

    private static void rideOfDoneAlone() {
        LiftScheduler lift = Check.loaded(HEAD + "call 0 1; call 0 9; run 2;");
        Check.same("both ride", lift.totalRide(), 0);
        lift.run(1);
        Check.same("one is done", lift.totalRide(), 2);
        lift.run(7);
        Check.same("one tick before the other is", lift.totalRide(), 2);
        lift.runToEnd();
        Check.same("both are done", lift.totalRide(), 13);
    }

    private static void noRides() {
        Check.same("nobody", new LiftScheduler().totalRide(), 0);
        Check.same("undone", Check.undone("call 0 1; finish;").totalRide(), 0);
        Check.same("waiting", Check.loaded(HEAD + "call 5 6;").totalRide(), 0);
    }

    private static void ridesOf40() {
        LiftScheduler lift = Check.loaded("lift 20 8 sweep;" + "call 0 19;".repeat(40));
        lift.runToEnd();
        Check.same("totalRide", lift.totalRide(), 40 * 20);
    }

    private static void greatestRide() {
        LiftScheduler lift = Check.loaded(HEAD + "call 0 5; call 0 9; call 0 1; run 10;");
        Check.same("of two who are done", lift.longestRide(), 7);
        lift.runToEnd();
        Check.same("of three", lift.longestRide(), 12);
    }

    private static void noLongestRide() {
        Check.same("nobody", new LiftScheduler().longestRide(), 0);
        Check.same("undone", Check.undone("call 0 1; finish;").longestRide(), 0);
        LiftScheduler lift = Check.loaded(ONE);
        Check.same("absent", lift.longestRide(), 0);
        lift.run(5);
        Check.same("waiting", lift.longestRide(), 0);
        lift.run(5);
        Check.same("riding", lift.longestRide(), 0);
        lift.run(1);
        Check.same("done", lift.longestRide(), 5);
    }

    private static void lastDone() {
        LiftScheduler lift = Check.loaded(HEAD + "call 0 5; call 0 9; call 0 1; run 3;");
        Check.same("the first of them", lift.lastDone(), 2);
        lift.run(5);
        Check.same("the second of them", lift.lastDone(), 0);
        lift.runToEnd();
        Check.same("the third of them", lift.lastDone(), 1);
    }

    private static void lowestLastDone() {
        Check.same("of two at once", Check.loaded(HEAD + "call 0 5; call 0 5; finish;").lastDone(), 0);
        Check.same("one before and two at once",
                Check.loaded(HEAD + "call 0 3; call 0 5; call 0 5; finish;").lastDone(), 1);
    }

    private static void noLastDone() {
        Check.same("nobody", new LiftScheduler().lastDone(), NONE);
        Check.same("undone", Check.undone("call 0 1; finish;").lastDone(), NONE);
        LiftScheduler lift = Check.loaded(ONE);
        Check.same("absent", lift.lastDone(), NONE);
        lift.run(5);
        Check.same("waiting", lift.lastDone(), NONE);
        lift.run(5);
        Check.same("riding", lift.lastDone(), NONE);
        lift.run(1);
        Check.same("done", lift.lastDone(), 0);
    }

    private static void shares() {
        LiftScheduler lift = Check.loaded(HEAD + "call 9 0; run 9;");
        Check.same("moves alone", lift.movingShare(), 1.0f);
        lift.run(1);
        Check.same("9 of 10", lift.movingShare(), 0.9f);
        Check.same("no moves", Check.loaded(HEAD + "run 999;").movingShare(), 0.0f);
        Check.same("1 of 999", Check.loaded(HEAD + "call 0 1; run 999;").movingShare(), 1.0f / 999.0f);
    }

    private static void shareOfFloats() {
        LiftScheduler lift = Check.loaded(HEAD + "call 0 1; run 3;");
        float third = lift.movingShare();
        Check.same("1 of 3", third, 1.0f / 3.0f);
        Check.same("not rounded to an int", third > 0.3f && third < 0.4f, true);
    }

    private static void shareAtTime0() {
        Check.same("new", new LiftScheduler().movingShare(), 0.0f);
        Check.same("with a passenger", Check.loaded(HEAD + "call 0 1;").movingShare(), 0.0f);
        Check.same("undone", Check.undone("call 9 1; finish;").movingShare(), 0.0f);
    }

    // ---- promises 43 to 46 ----

    private static void waitOfBoardedAlone() {
        LiftScheduler lift = Check.loaded(HEAD + "call 2 6; call 4 6; run 2;");
        Check.same("both wait", lift.totalWait(), 0);
        lift.run(1);
        Check.same("one has boarded", lift.totalWait(), 2);
        lift.run(3);
        Check.same("both have boarded", lift.totalWait(), 7);
        lift.runToEnd();
        Check.same("both are done", lift.totalWait(), 7);
    }

    private static void noWaits() {
        Check.same("nobody", new LiftScheduler().totalWait(), 0);
        Check.same("undone", Check.undone("call 5 6; finish;").totalWait(), 0);
        Check.same("absent and waiting", Check.loaded(HEAD + "call 5 6; call 5 6 at 9; run 3;").totalWait(), 0);
    }

    private static void waitsOf40() {
        LiftScheduler lift = Check.loaded("lift 2 8 sweep;" + "call 1 0;".repeat(40));
        lift.runToEnd();
        // Eight each board at 1, 5, 9, 13 and 17.
        Check.same("totalWait", lift.totalWait(), 8 * (1 + 5 + 9 + 13 + 17));
        Check.same("longestWait", lift.longestWait(), 17);
        Check.same("meanWait", lift.meanWait(), 9.0);
    }

    private static void greatestWait() {
        LiftScheduler lift = Check.loaded(HEAD + "call 2 6; call 4 6; call 4 6 at 5; run 5;");
        Check.same("of one who has boarded", lift.longestWait(), 2);
        lift.run(1);
        Check.same("of three", lift.longestWait(), 5);
        lift.runToEnd();
        Check.same("when all are done", lift.longestWait(), 5);
    }

    private static void noLongestWait() {
        Check.same("nobody", new LiftScheduler().longestWait(), 0);
        Check.same("undone", Check.undone("call 5 6; finish;").longestWait(), 0);
        LiftScheduler lift = Check.loaded(ONE);
        Check.same("absent", lift.longestWait(), 0);
        lift.run(5);
        Check.same("waiting", lift.longestWait(), 0);
        lift.run(1);
        Check.same("riding", lift.longestWait(), 2);
        Check.same("boarded at once", Check.loaded(HEAD + "call 0 1; run 1;").longestWait(), 0);
    }

    private static void means() {
        LiftScheduler lift = Check.loaded(HEAD + "call 2 6; call 4 6; call 6 2; call 9 8 at 999; run 3;");
        Check.same("one rides", lift.meanWait(), 2.0);
        lift.run(3);
        Check.same("two ride", lift.meanWait(), 3.5);
        lift.run(3);
        Check.same("two are done and one rides", lift.meanWait(), 5.0);
        Check.same("boarded at once", Check.loaded(HEAD + "call 0 1; run 1;").meanWait(), 0.0);
    }

    private static void meanOfDoubles() {
        // They wait 1, 0 and 0 ticks.
        LiftScheduler lift = Check.loaded(HEAD + "call 1 9; call 1 9 at 1; call 1 9 at 1; run 2;");
        Check.same("1 of 3", lift.meanWait(), 1.0 / 3.0);
        Check.same("not rounded to a float", lift.meanWait() == 1.0f / 3.0f, false);
    }

    private static void noMean() {
        Check.same("nobody", new LiftScheduler().meanWait(), 0.0);
        Check.same("undone", Check.undone("call 5 6; finish;").meanWait(), 0.0);
        LiftScheduler lift = Check.loaded(ONE);
        Check.same("absent", lift.meanWait(), 0.0);
        lift.run(5);
        Check.same("waiting", lift.meanWait(), 0.0);
        lift.run(1);
        Check.same("riding", lift.meanWait(), 2.0);
    }

    private static void finishedWithTheLast() {
        LiftScheduler lift = Check.loaded(HEAD + "call 0 1; call 2 6 at 5;");
        Check.same("waiting and absent", lift.isFinished(), false);
        lift.run(3);
        Check.same("done and absent", lift.isFinished(), false);
        lift.run(2);
        Check.same("done and waiting", lift.isFinished(), false);
        lift.run(6);
        Check.same("done and riding", lift.isFinished(), false);
        lift.run(1);
        Check.same("done", lift.isFinished(), true);
        lift.addPassenger(0, 1, 999);
        Check.same("done and absent again", lift.isFinished(), false);
    }

    private static void finishedWithNobody() {
        Check.same("new", new LiftScheduler().isFinished(), true);
        Check.same("undone", Check.undone("call 0 1;").isFinished(), true);
        Check.same("at 999", Check.loaded(HEAD + "run 999;").isFinished(), true);
    }

    // ---- forecasts ----

    private static void forecastsChangeNothing() {
        String[] texts = {HEAD, AT_5 + "call 4 0; call 6 0; call 5 9; run 3;", LATE + "run 999;"};
        for (String text : texts) {
            LiftScheduler lift = Check.loaded(text);
            lift.setCapacity(2);
            lift.save(1);
            lift.writeBuilding();
            lift.append(0, 0, 0, 0, 0);
            String before = Check.everything(lift);
            String state = Check.state(lift);
            lift.ticksToFinish();
            lift.bestPolicy();
            lift.ticksWithCapacity(8);
            Check.same("state", Check.state(lift), state);
            for (int policy = FIRST; policy <= SWEEP; policy++) {
                lift.ticksWithPolicy(policy);
                lift.waitWithPolicy(policy);
                lift.longestWaitWithPolicy(policy);
                Check.same("state, after " + policy, Check.state(lift), state);
            }
            for (int i = 0; i < lift.passengerCount(); i++) {
                lift.expectedAt(i);
            }
            Check.same("all", Check.everything(lift), before);
            Check.holdsBytes("buffer", lift, 20);
            Check.same("slot 0", lift.save(0), true);
            Check.same("slot 1", lift.save(1), false);
            lift.undo();
            Check.same("the change before", lift.capacity(), text.equals(HEAD) ? 4 : 1);
        }
    }

    private static void ticksToFinish() {
        LiftScheduler lift = Check.loaded(ONE);
        for (int left = 11; left > 0; left--) {
            Check.same("ticks", lift.ticksToFinish(), left);
            lift.run(1);
        }
        Check.same("ticks", lift.ticksToFinish(), 0);
        Check.same("isFinished", lift.isFinished(), true);
    }

    private static void nothingToFinish() {
        Check.same("nobody", new LiftScheduler().ticksToFinish(), 0);
        Check.same("undone", Check.undone("call 0 1;").ticksToFinish(), 0);
        Check.same("done", Check.loaded(ONE + "finish;").ticksToFinish(), 0);
        Check.same("done at 999", Check.loaded(ONE + "run 999;").ticksToFinish(), 0);
    }

    private static void finishBeyond999() {
        LiftScheduler lift = Check.loaded(LATE);
        Check.same("from 0", lift.ticksToFinish(), 999 + 40);
        lift.run(999);
        Check.same("from 999", lift.ticksToFinish(), 40);
        Check.same("time", lift.time(), 999);
        Check.same("just to 999", Check.loaded(HEAD + "call 0 1 at 996;").ticksToFinish(), 999);
        Check.same("just to 1000", Check.loaded(HEAD + "call 0 1 at 997;").ticksToFinish(), 1000);
    }

    private static void finishOfAbsent() {
        Check.same("done and absent", Check.loaded(HEAD + "call 0 1; call 1 0 at 50; run 3;").ticksToFinish(), 50);
    }

    private static void finishOf40() {
        LiftScheduler lift = Check.loaded("lift 20 1 sweep; run 999; repeat 8 (" + "call 19 0;".repeat(5) + ");");
        // Each is fetched from floor 19 and brought to floor 0, with the doors open at both.
        Check.same("ticks", lift.ticksToFinish(), 40 * 40);
        Check.same("the last one", lift.expectedAt(39), 999 + 1600 - 1);
        Check.same("waits", lift.longestWaitWithPolicy(FIRST), 39 * 40 + 19);
    }

    // ---- forecasts with a policy ----

    private static void ticksOfPolicies() {
        LiftScheduler lift = Check.loaded("lift 10 2 sweep; call 0 4; finish; call 1 8; call 3 7; call 6 1;");
        Check.same("first", lift.ticksWithPolicy(FIRST), 23);
        Check.same("nearest", lift.ticksWithPolicy(NEAREST), 25);
        Check.same("sweep", lift.ticksWithPolicy(SWEEP), 19);
        for (int policy = FIRST; policy <= SWEEP; policy++) {
            lift.setPolicy(policy);
            Check.same("the present one", lift.ticksToFinish(), lift.ticksWithPolicy(policy));
            int due = lift.ticksToFinish();
            Check.same("what comes true", lift.runToEnd(), due);
            lift.undo();
        }
    }

    private static void noTicksOfPolicies() {
        for (int policy = FIRST; policy <= SWEEP; policy++) {
            Check.same("nobody", new LiftScheduler().ticksWithPolicy(policy), 0);
            Check.same("done", Check.loaded(ONE + "finish;").ticksWithPolicy(policy), 0);
        }
    }

    private static void ticksBeyond999() {
        for (int policy = FIRST; policy <= SWEEP; policy++) {
            LiftScheduler lift = Check.loaded(LATE);
            Check.same("from 0", lift.ticksWithPolicy(policy), 999 + 40);
            lift.run(999);
            Check.same("from 999", lift.ticksWithPolicy(policy), 40);
        }
    }

    private static void sumOfAll() {
        LiftScheduler lift = Check.loaded("lift 10 2 sweep; call 0 4; finish; call 1 8; call 3 7; call 6 1;");
        Check.same("first", lift.waitWithPolicy(FIRST), 20);
        Check.same("nearest", lift.waitWithPolicy(NEAREST), 18);
        Check.same("sweep", lift.waitWithPolicy(SWEEP), 17);
        for (int policy = FIRST; policy <= SWEEP; policy++) {
            int due = lift.waitWithPolicy(policy);
            lift.setPolicy(policy);
            lift.runToEnd();
            Check.same("what comes true", lift.totalWait(), due);
            lift.undo();
            lift.undo();
        }
    }

    private static void waitsOfDone() {
        for (int policy = FIRST; policy <= SWEEP; policy++) {
            Check.same("done alone", Check.loaded(ONE + "finish;").waitWithPolicy(policy), 2);
            Check.same("and one who rides",
                    Check.loaded(ONE + "finish; call 4 0; run 3;").waitWithPolicy(policy), 4);
            Check.same("and one who waits",
                    Check.loaded(ONE + "finish; call 4 0;").waitWithPolicy(policy), 4);
        }
    }

    private static void waitsOfNobody() {
        for (int policy = FIRST; policy <= SWEEP; policy++) {
            Check.same("new", new LiftScheduler().waitWithPolicy(policy), 0);
            Check.same("undone", Check.undone("call 5 6; finish;").waitWithPolicy(policy), 0);
        }
    }

    private static void waitsBeyond999() {
        for (int policy = FIRST; policy <= SWEEP; policy++) {
            Check.same("from 0", Check.loaded(LATE).waitWithPolicy(policy), 19);
            // The second one is fetched when the first one has been brought down.
            Check.same("from 999", Check.loaded(LATE + "run 999; call 19 1;").waitWithPolicy(policy), 19 + 59);
        }
    }

    private static void greatestOfAll() {
        LiftScheduler lift = Check.loaded("lift 10 2 sweep; call 0 4; finish; call 1 8; call 3 7; call 6 1;");
        Check.same("first", lift.longestWaitWithPolicy(FIRST), 14);
        Check.same("nearest", lift.longestWaitWithPolicy(NEAREST), 13);
        Check.same("sweep", lift.longestWaitWithPolicy(SWEEP), 9);
        for (int policy = FIRST; policy <= SWEEP; policy++) {
            int due = lift.longestWaitWithPolicy(policy);
            lift.setPolicy(policy);
            lift.runToEnd();
            Check.same("what comes true", lift.longestWait(), due);
            lift.undo();
            lift.undo();
        }
    }

    private static void longestOfDone() {
        for (int policy = FIRST; policy <= SWEEP; policy++) {
            Check.same("done alone", Check.loaded(ONE + "finish;").longestWaitWithPolicy(policy), 2);
            Check.same("longer than of those to come",
                    Check.loaded(HEAD + "call 9 0; finish; call 1 0;").longestWaitWithPolicy(policy), 9);
        }
    }

    private static void longestOfNobody() {
        for (int policy = FIRST; policy <= SWEEP; policy++) {
            Check.same("new", new LiftScheduler().longestWaitWithPolicy(policy), 0);
            Check.same("undone", Check.undone("call 5 6; finish;").longestWaitWithPolicy(policy), 0);
        }
    }

    private static void longestBeyond999() {
        for (int policy = FIRST; policy <= SWEEP; policy++) {
            Check.same("from 0", Check.loaded(LATE).longestWaitWithPolicy(policy), 19);
            Check.same("from 999", Check.loaded(LATE + "run 999;").longestWaitWithPolicy(policy), 19);
        }
    }

    private static void bestOfThree() {
        Check.same("29 31 33", best("call 0 1; call 3 4; call 7 9;"), FIRST);
        Check.same("22 28 24", best("call 0 1; call 6 2; call 3 6;"), FIRST);
        Check.same("33 31 35", best("call 0 1; call 3 5; call 7 9;"), NEAREST);
        Check.same("49 43 45", best("call 0 1; call 1 6; call 9 3;"), NEAREST);
        Check.same("45 42 34", best("call 0 1; call 1 5; call 9 0;"), SWEEP);
        Check.same("41 44 40", best("call 1 5; call 9 1; call 1 0;"), SWEEP);
    }

    private static void lowestOfBest() {
        Check.same("27 27 27", best("call 0 1; call 0 1; call 0 3;"), FIRST);
        Check.same("27 27 34", best("call 0 1; call 1 0; call 9 0;"), FIRST);
        Check.same("21 25 21", best("call 0 1; call 3 2; call 3 6;"), FIRST);
        Check.same("31 21 21", best("call 0 1; call 0 1; call 6 0;"), NEAREST);
        Check.same("31 35 35", best("call 0 1; call 0 1; call 6 9;"), FIRST);
        Check.same("nobody", new LiftScheduler().bestPolicy(), FIRST);
        Check.same("all are done", Check.loaded(AT_5).bestPolicy(), FIRST);
    }

    private static int best(String calls) {
        return Check.loaded(AT_5 + calls).bestPolicy();
    }

    private static void bestOfAnyPolicy() {
        for (String policy : new String[] {"first", "nearest", "sweep"}) {
            Check.same("first", best("policy " + policy + "; call 0 1; call 3 4; call 7 9;"), FIRST);
            Check.same("nearest", best("policy " + policy + "; call 0 1; call 3 5; call 7 9;"), NEAREST);
            Check.same("sweep", best("policy " + policy + "; call 0 1; call 1 5; call 9 0;"), SWEEP);
        }
    }

    // ---- forecasts with a capacity, and of a passenger ----

    private static void capacities() {
        LiftScheduler lift = Check.loaded("lift 2 4 sweep; repeat 8 (call 1 0;);");
        // A round of four ticks brings as many as the capacity tells.
        int[] rounds = {8, 4, 3, 2, 2, 2, 2, 1};
        for (int capacity = 1; capacity <= 8; capacity++) {
            Check.same("capacity " + capacity, lift.ticksWithCapacity(capacity), 4 * rounds[capacity - 1]);
        }
        Check.same("capacity stays", lift.capacity(), 4);
    }

    private static void wrongCapacities() {
        LiftScheduler lift = Check.loaded(ONE);
        for (int wrong : new int[] {0, 9, -1, Integer.MIN_VALUE, Integer.MAX_VALUE}) {
            Check.wrongArgument("capacity " + wrong, () -> lift.ticksWithCapacity(wrong));
            Check.wrongArgument("of nobody, " + wrong, () -> new LiftScheduler().ticksWithCapacity(wrong));
        }
    }

    private static void moreRiders() {
        LiftScheduler lift = Check.loaded("lift 10 8 sweep; repeat 8 (call 0 9;); run 1;");
        for (int capacity = 1; capacity <= 7; capacity++) {
            int less = capacity;
            Check.wrongState("8 riders, capacity " + less, () -> lift.ticksWithCapacity(less));
        }
        Check.wrongState("2 riders, capacity 1",
                () -> Check.loaded(HEAD + "call 0 9; call 0 9; run 1;").ticksWithCapacity(1));
    }

    private static void asManyRiders() {
        for (int riders = 1; riders <= 8; riders++) {
            LiftScheduler lift = Check.loaded("lift 10 8 sweep;" + "call 0 9;".repeat(riders) + "run 1;");
            Check.same("riders " + riders, lift.ticksWithCapacity(riders), 10);
        }
    }

    private static void rangeBeforeRiders() {
        LiftScheduler lift = Check.loaded("lift 10 8 sweep; repeat 8 (call 0 9;); run 1;");
        Check.wrongArgument("0", () -> lift.ticksWithCapacity(0));
        Check.wrongArgument("-1", () -> lift.ticksWithCapacity(-1));
    }

    private static void noTicksOfCapacities() {
        for (int capacity = 1; capacity <= 8; capacity++) {
            Check.same("nobody", new LiftScheduler().ticksWithCapacity(capacity), 0);
            Check.same("done", Check.loaded(ONE + "finish;").ticksWithCapacity(capacity), 0);
        }
    }

    private static void capacityBeyond999() {
        LiftScheduler lift = Check.loaded(LATE + "run 999; call 19 0;");
        Check.same("one by one", lift.ticksWithCapacity(1), 80);
        Check.same("both at once", lift.ticksWithCapacity(2), 40);
    }

    private static void expected() {
        LiftScheduler lift = Check.loaded(ONE);
        for (int time = 0; time < 12; time++) {
            Check.same("at " + time, lift.expectedAt(0), 10);
            lift.run(1);
        }
        Check.same("what came true", lift.leftAt(0), 10);
        Check.same("the earliest", Check.loaded(HEAD + "call 0 1;").expectedAt(0), 2);
    }

    private static void expectedOfDone() {
        LiftScheduler lift = Check.loaded(ONE + "run 999; call 0 1;");
        Check.same("at 999", lift.expectedAt(0), 10);
        Check.same("and the other", lift.expectedAt(1), 999 + 6 + 1 + 1);
    }

    private static void expectedBeyond999() {
        LiftScheduler lift = Check.loaded(LATE);
        Check.same("from 0", lift.expectedAt(0), 999 + 39);
        lift.run(999);
        Check.same("from 999", lift.expectedAt(0), 999 + 39);
        Check.same("not yet", lift.leftAt(0), NONE);
    }

    private static void expectedOfNone() {
        LiftScheduler lift = Check.loaded(ONE);
        for (int wrong : new int[] {-1, 1, 39, 40, Integer.MIN_VALUE, Integer.MAX_VALUE}) {
            Check.outOfBounds("number " + wrong, () -> lift.expectedAt(wrong));
        }
        Check.outOfBounds("0 of 0", () -> new LiftScheduler().expectedAt(0));
        Check.outOfBounds("undone", () -> Check.undone("call 0 1;").expectedAt(0));
        LiftScheduler most = Check.loaded(HEAD + "call 0 1;".repeat(40));
        Check.same("39 of 40", most.expectedAt(39), 2 + 4 * 9);
        Check.outOfBounds("40 of 40", () -> most.expectedAt(40));
    }
}
