/** Promises 39 to 53: measured times and forecasts. */
public final class MeasureTest {
    private static final int NONE = LiftScheduler.NONE;
    private static final String THREE = "lift 10 4 sweep; call 3 7; call 1 0; call 5 2 at 4;";
    // From floor 4 at time 6; each policy has other ticks, waits and longest waits in each.
    private static final String FIRST_IS_BEST = "lift 10 1 sweep; call 0 4; finish;"
            + "call 8 7; call 9 4; call 0 7;";
    private static final String NEAREST_IS_BEST = "lift 10 1 sweep; call 0 4; finish;"
            + "call 0 9; call 2 7; call 9 7;";
    private static final String SWEEP_IS_BEST = "lift 10 2 sweep; call 0 4; finish;"
            + "call 1 8; call 3 7; call 6 1;";

    public static void main(String[] args) {
        rides();
        last();
        share();
        waits();
        finished();
        ticksOfForecasts();
        waitsOfForecasts();
        best();
        capacities();
        expected();
        beyondTheLastTime();
        undonePassengers();
        forecastsChangeNothing();
        wrongInputs();
        Check.end();
    }

    private static void rides() {
        LiftScheduler lift = Check.loaded(THREE);
        Check.same("totalRide of nobody", new LiftScheduler().totalRide(), 0);
        Check.same("longestRide of nobody", new LiftScheduler().longestRide(), 0);
        lift.run(10);
        Check.same("totalRide at 10", lift.totalRide(), 0);
        Check.same("longestRide at 10", lift.longestRide(), 0);
        lift.run(1);
        Check.same("totalRide at 11", lift.totalRide(), 6);
        Check.same("longestRide at 11", lift.longestRide(), 6);
        lift.run(6);
        Check.same("totalRide at 17", lift.totalRide(), 15);
        Check.same("longestRide at 17", lift.longestRide(), 9);
        lift.run(3);
        Check.same("totalRide at the end", lift.totalRide(), 33);
        Check.same("longestRide at the end", lift.longestRide(), 18);
    }

    private static void last() {
        LiftScheduler lift = Check.loaded(THREE);
        Check.same("lastDone at 0", lift.lastDone(), NONE);
        lift.run(11);
        Check.same("lastDone at 11", lift.lastDone(), 0);
        lift.run(6);
        Check.same("lastDone at 17", lift.lastDone(), 2);
        lift.run(3);
        Check.same("lastDone at 20", lift.lastDone(), 1);
        Check.same("the lowest of several",
                Check.loaded("lift 10 4 sweep; call 0 1; call 0 5; call 0 5; finish;").lastDone(), 1);
    }

    private static void share() {
        LiftScheduler lift = Check.loaded(THREE);
        Check.same("movingShare at 0", lift.movingShare(), 0.0f);
        lift.run(3);
        Check.same("movingShare at 3", lift.movingShare(), 2.0f / 3.0f);
        lift.runToEnd();
        Check.same("movingShare at 20", lift.movingShare(), 0.7f);
        LiftScheduler idle = new LiftScheduler();
        idle.run(7);
        Check.same("movingShare of an idle lift", idle.movingShare(), 0.0f);
    }

    private static void waits() {
        LiftScheduler lift = Check.loaded(THREE);
        Check.same("totalWait at 0", lift.totalWait(), 0);
        Check.same("longestWait at 0", lift.longestWait(), 0);
        Check.same("meanWait at 0", lift.meanWait(), 0.0);
        lift.run(5);
        Check.same("totalWait at 5", lift.totalWait(), 5);
        Check.same("longestWait at 5", lift.longestWait(), 4);
        Check.same("meanWait at 5", lift.meanWait(), 2.5);
        lift.runToEnd();
        Check.same("totalWait at the end", lift.totalWait(), 8);
        Check.same("longestWait at the end", lift.longestWait(), 4);
        Check.same("meanWait at the end", lift.meanWait(), 8.0 / 3.0);
        LiftScheduler atOnce = Check.loaded("lift 10 4 sweep; call 0 1; run 1;");
        Check.same("meanWait without waiting", atOnce.meanWait(), 0.0);
    }

    private static void finished() {
        LiftScheduler lift = Check.loaded(THREE);
        Check.same("isFinished at 0", lift.isFinished(), false);
        lift.run(19);
        Check.same("isFinished at 19", lift.isFinished(), false);
        lift.run(1);
        Check.same("isFinished at 20", lift.isFinished(), true);
        lift.addPassenger(1, 2, 999);
        Check.same("isFinished with an absent one", lift.isFinished(), false);
        Check.same("isFinished of nobody", new LiftScheduler().isFinished(), true);
    }

    private static void ticksOfForecasts() {
        LiftScheduler lift = Check.loaded(THREE);
        Check.same("ticksToFinish at 0", lift.ticksToFinish(), 20);
        lift.run(7);
        Check.same("ticksToFinish at 7", lift.ticksToFinish(), 13);
        lift.run(92);
        Check.same("ticksToFinish at the end", lift.ticksToFinish(), 0);
        Check.same("ticksToFinish of nobody", new LiftScheduler().ticksToFinish(), 0);
        Check.same("ticks, first is best", ticks(FIRST_IS_BEST), "29 26 32 and 32");
        Check.same("ticks, nearest is best", ticks(NEAREST_IS_BEST), "30 33 39 and 39");
        Check.same("ticks, sweep is best", ticks(SWEEP_IS_BEST), "23 25 19 and 19");
        LiftScheduler other = Check.loaded(SWEEP_IS_BEST + "policy nearest;");
        Check.same("ticksToFinish with the policy", other.ticksToFinish(), 25);
    }

    private static String ticks(String text) {
        LiftScheduler lift = Check.loaded(text);
        return lift.ticksWithPolicy(0) + " " + lift.ticksWithPolicy(1) + " "
                + lift.ticksWithPolicy(2) + " and " + lift.ticksToFinish();
    }

    private static void waitsOfForecasts() {
        Check.same("waits, first is best", waits(FIRST_IS_BEST), "33 37 43 longest 20 19 25");
        Check.same("waits, nearest is best", waits(NEAREST_IS_BEST), "44 35 47 longest 26 22 28");
        Check.same("waits, sweep is best", waits(SWEEP_IS_BEST), "20 18 17 longest 14 13 9");
        Check.same("waits of nobody", waits("lift 5 5 first;"), "0 0 0 longest 0 0 0");
        // What was waited before counts too.
        Check.same("waits of those who are done", waits(THREE + "finish;"), "8 8 8 longest 4 4 4");
    }

    private static String waits(String text) {
        LiftScheduler lift = Check.loaded(text);
        return lift.waitWithPolicy(0) + " " + lift.waitWithPolicy(1) + " " + lift.waitWithPolicy(2)
                + " longest " + lift.longestWaitWithPolicy(0) + " " + lift.longestWaitWithPolicy(1)
                + " " + lift.longestWaitWithPolicy(2);
    }

    private static void best() {
        Check.same("first is best", Check.loaded(FIRST_IS_BEST).bestPolicy(), 0);
        Check.same("nearest is best", Check.loaded(NEAREST_IS_BEST).bestPolicy(), 1);
        Check.same("sweep is best", Check.loaded(SWEEP_IS_BEST).bestPolicy(), 2);
        Check.same("the lowest of three", new LiftScheduler().bestPolicy(), 0);
        // The waits of the policies are 37, 23 and 36.
        Check.same("sweep is not worst", Check.loaded("lift 10 2 sweep; call 0 4; finish;"
                + "call 2 5; call 0 5; call 9 7;").bestPolicy(), 1);
        // First and nearest wait 44 and 46, sweep 44 too.
        LiftScheduler two = Check.loaded("lift 20 1 first; call 10 11; finish;"
                + "call 19 0; call 9 12; call 13 8;");
        Check.same("first and sweep are equal", two.waitWithPolicy(0) - two.waitWithPolicy(2), 0);
        Check.same("the lowest of two", two.bestPolicy(), 0);
    }

    private static void capacities() {
        LiftScheduler lift = Check.loaded("lift 20 1 first; call 0 19; call 2 5 at 9; call 2 6 at 3;"
                + "call 2 7 at 3; call 4 1 at 1; run 12;");
        Check.same("ticksWithCapacity(1)", lift.ticksWithCapacity(1), 57);
        Check.same("ticksWithCapacity(2)", lift.ticksWithCapacity(2), 59);
        Check.same("ticksWithCapacity(3)", lift.ticksWithCapacity(3), 50);
        Check.same("ticksWithCapacity(8)", lift.ticksWithCapacity(8), 43);
        LiftScheduler riders = Check.loaded("lift 10 4 sweep; call 0 9; call 0 8; run 1;");
        Check.same("capacity of the riders", riders.ticksWithCapacity(2), 11);
        Check.wrongState("ticksWithCapacity(1)", () -> riders.ticksWithCapacity(1));
        Check.wrongArgument("ticksWithCapacity(0)", () -> riders.ticksWithCapacity(0));
        Check.wrongArgument("ticksWithCapacity(-1)", () -> riders.ticksWithCapacity(-1));
        Check.wrongArgument("ticksWithCapacity(9)", () -> riders.ticksWithCapacity(9));
    }

    private static void expected() {
        LiftScheduler lift = Check.loaded(THREE);
        Check.same("expectedAt 0", lift.expectedAt(0), 10);
        Check.same("expectedAt 1", lift.expectedAt(1), 19);
        Check.same("expectedAt 2", lift.expectedAt(2), 16);
        lift.run(11);
        Check.same("expectedAt of one who has left", lift.expectedAt(0), 10);
        Check.same("expectedAt of a rider", lift.expectedAt(1), 19);
        lift.setCapacity(2);
        lift.setPolicy(LiftScheduler.FIRST_COME);
        lift.addPassenger(9, 0, 12);
        Check.same("expectedAt with the policy", lift.expectedAt(3), 39);
        Check.outOfBounds("expectedAt(4)", () -> lift.expectedAt(4));
        Check.outOfBounds("expectedAt(-1)", () -> lift.expectedAt(-1));
    }

    private static void beyondTheLastTime() {
        LiftScheduler lift = Check.loaded("lift 20 1 sweep; call 19 0 at 999; call 19 1 at 998;");
        // Up 19, in, down 18, out, up 18, in, down 19, out.
        int ticks = 19 + 1 + 18 + 1 + 18 + 1 + 19 + 1;
        Check.same("ticksToFinish from 0", lift.ticksToFinish(), 998 + ticks);
        Check.same("expectedAt from 0", lift.expectedAt(0), 998 + ticks - 1);
        lift.run(999);
        Check.same("ticksToFinish at 999", lift.ticksToFinish(), ticks - 1);
        Check.same("ticksWithPolicy at 999", lift.ticksWithPolicy(0), ticks - 1);
        Check.same("ticksWithCapacity at 999", lift.ticksWithCapacity(2), 18 + 1 + 18 + 1 + 1 + 1);
        Check.same("waitWithPolicy at 999", lift.waitWithPolicy(1), 19 + 56);
        Check.same("longestWaitWithPolicy at 999", lift.longestWaitWithPolicy(1), 56);
        Check.same("time stays", lift.time(), 999);
        Check.same("it is not finished", lift.isFinished(), false);
    }

    /** Rows of passengers who are undone must not be read. */
    private static void undonePassengers() {
        LiftScheduler lift = Check.undone("call 5 6; finish;");
        Check.same("totalRide", lift.totalRide(), 0);
        Check.same("longestRide", lift.longestRide(), 0);
        Check.same("lastDone", lift.lastDone(), NONE);
        Check.same("totalWait", lift.totalWait(), 0);
        Check.same("longestWait", lift.longestWait(), 0);
        Check.same("meanWait", lift.meanWait(), 0.0);
        Check.same("isFinished", lift.isFinished(), true);
        Check.same("waitWithPolicy", lift.waitWithPolicy(1), 0);
        Check.same("longestWaitWithPolicy", lift.longestWaitWithPolicy(1), 0);
        Check.same("ticksToFinish", lift.ticksToFinish(), 0);
    }

    private static void forecastsChangeNothing() {
        LiftScheduler lift = Check.loaded(SWEEP_IS_BEST);
        lift.run(3);
        String before = Check.state(lift);
        lift.ticksToFinish();
        lift.ticksWithPolicy(1);
        lift.waitWithPolicy(0);
        lift.longestWaitWithPolicy(0);
        lift.bestPolicy();
        lift.ticksWithCapacity(8);
        lift.expectedAt(1);
        Check.same("state", Check.state(lift), before);
        Check.same("undoDepth", lift.undoDepth(), 1);
    }

    private static void wrongInputs() {
        LiftScheduler lift = new LiftScheduler();
        for (int wrong : new int[] {-1, 3, Integer.MIN_VALUE, Integer.MAX_VALUE}) {
            Check.wrongArgument("ticksWithPolicy " + wrong, () -> lift.ticksWithPolicy(wrong));
            Check.wrongArgument("waitWithPolicy " + wrong, () -> lift.waitWithPolicy(wrong));
            Check.wrongArgument("longestWait " + wrong, () -> lift.longestWaitWithPolicy(wrong));
        }
        Check.outOfBounds("expectedAt of nobody", () -> lift.expectedAt(0));
    }
}
