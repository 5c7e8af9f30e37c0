/** A test for each sentence of the terms and of promises 8 to 20 that names a boundary case. */
public final class BoundaryLiftTest {
    private static final int NONE = LiftScheduler.NONE;
    private static final int FIRST = LiftScheduler.FIRST_COME;
    private static final int NEAREST = LiftScheduler.NEAREST;
    private static final int SWEEP = LiftScheduler.SWEEP;
    private static final String HEAD = "lift 10 4 sweep;";
    // The lift stands empty at floor 5 at time 7, with the direction up.
    private static final String AT_5 = HEAD + "call 0 5; finish;";

    public static void main(String[] args) {
        terms();
        building();
        ticks();
        targets();
        counted();
        Check.end();
    }

    private static void terms() {
        Check.holds("the lift begins at floor 0", BoundaryLiftTest::beginsAtFloor0);
        Check.holds("empty", BoundaryLiftTest::beginsEmpty);
        Check.holds("with the direction up", BoundaryLiftTest::beginsUpwards);
        Check.holds("the time is 0 at first", BoundaryLiftTest::beginsAtTime0);
        Check.holds("and at most 999", BoundaryLiftTest::lastTime);
        Check.holds("floors are numbered from 0", BoundaryLiftTest::lowestAndHighestFloor);
        Check.holds("the lift is full if riders equal the capacity", BoundaryLiftTest::fullOfCapacity);
    }

    private static void building() {
        Check.holds("8: returns 2 to 20", BoundaryLiftTest::floorCounts);
        Check.holds("9: returns 1 to 8", BoundaryLiftTest::capacities);
        Check.holds("10: FIRST_COME, NEAREST or SWEEP", BoundaryLiftTest::policies);
        Check.holds("11: the number of simulated ticks, 0 to 999", BoundaryLiftTest::times);
        Check.holds("12: the number of the floor", BoundaryLiftTest::floors);
        Check.holds("13: true if it is up", BoundaryLiftTest::directions);
        Check.holds("14: true if riders equal the capacity", BoundaryLiftTest::full);
        Check.holds("14: an empty lift is not full", BoundaryLiftTest::emptyIsNotFull);
        Check.holds("15: bit f, of the lowest and highest floor", BoundaryLiftTest::outermostStops);
        Check.holds("15: no bit if there is no stop", BoundaryLiftTest::noStops);
        Check.holds("15: if not full, the origins of all waiting", BoundaryLiftTest::stopsOfFullLift);
        Check.holds("15: of waiting ones, not of absent or done ones", BoundaryLiftTest::stopsOfStatus);
    }

    private static void ticks() {
        Check.holds("the tick is a door tick", BoundaryLiftTest::doorTick);
        Check.holds("first all riding passengers leave, then others board", BoundaryLiftTest::leaveThenBoard);
        Check.holds("board in queue order as long as not full", BoundaryLiftTest::boardUntilFull);
        Check.holds("a full lift has no stop at an origin", BoundaryLiftTest::fullLiftGoesOn);
        Check.holds("the lift moves one floor", BoundaryLiftTest::oneFloor);
        Check.holds("otherwise the tick is an idle tick", BoundaryLiftTest::idleTick);
        Check.holds("at the time before this increase", BoundaryLiftTest::timeBeforeIncrease);
        Check.holds("one who arrives at this time can board", BoundaryLiftTest::arrivesAndBoards);
        Check.holds("doors before the way", BoundaryLiftTest::doorsBeforeWay);
    }

    private static void targets() {
        Check.holds("FIRST_COME: the riding passenger with the lowest number", BoundaryLiftTest::firstRider);
        Check.holds("FIRST_COME: otherwise the first in queue order", BoundaryLiftTest::firstInQueue);
        Check.holds("NEAREST: the lower one of two", BoundaryLiftTest::lowerOfTwo);
        Check.holds("NEAREST: the smallest distance", BoundaryLiftTest::smallestDistance);
        Check.holds("SWEEP keeps the direction if there is a stop", BoundaryLiftTest::sweepKeeps);
        Check.holds("SWEEP otherwise reverses the direction", BoundaryLiftTest::sweepReverses);
        Check.holds("SWEEP: the nearest stop in the direction", BoundaryLiftTest::sweepNearest);
        Check.holds("only SWEEP changes the direction", BoundaryLiftTest::otherPoliciesKeepDirection);
        Check.holds("16: the floor of the lift if it is a stop", BoundaryLiftTest::floorIsStop);
        Check.holds("16: NONE if there is no stop", BoundaryLiftTest::noTarget);
        Check.holds("16: IllegalArgumentException", BoundaryLiftTest::wrongPolicies);
        Check.holds("16: returns the target, and changes nothing", BoundaryLiftTest::targetChangesNothing);
        Check.holds("16: of any policy, not of the present one", BoundaryLiftTest::targetOfOtherPolicies);
    }

    private static void counted() {
        Check.holds("17: the number of move ticks", BoundaryLiftTest::moves);
        Check.holds("18: the number of door ticks", BoundaryLiftTest::doors);
        Check.holds("19: the number of idle ticks", BoundaryLiftTest::idles);
        Check.holds("17 to 19: at most 999", BoundaryLiftTest::mostOfEach);
        Check.holds("20: the number of reversals, 0 at first", BoundaryLiftTest::noReversals);
        Check.holds("20: each reversal counts", BoundaryLiftTest::reversals);
        Check.holds("20: with the first move, not before", BoundaryLiftTest::reversalWithMove);
    }

    // ---- the terms ----

    private static void beginsAtFloor0() {
        Check.same("new", new LiftScheduler().floor(), 0);
        Check.same("loaded", Check.loaded("lift 20 1 first; call 19 0;").floor(), 0);
    }

    private static void beginsEmpty() {
        LiftScheduler lift = Check.loaded("lift 20 1 first; call 0 1;");
        Check.same("riders", lift.countStatus(LiftScheduler.RIDING), 0);
        Check.same("full", lift.isFull(), false);
        Check.same("nobody", new LiftScheduler().countStatus(LiftScheduler.RIDING), 0);
    }

    private static void beginsUpwards() {
        Check.same("new", new LiftScheduler().isUpward(), true);
        LiftScheduler lift = Check.loaded(HEAD + "reverse;");
        Check.type(lift, HEAD);
        lift.load();
        Check.same("loaded", lift.isUpward(), true);
    }

    private static void beginsAtTime0() {
        Check.same("new", new LiftScheduler().time(), 0);
        LiftScheduler lift = Check.loaded(HEAD + "run 5;");
        Check.type(lift, HEAD);
        lift.load();
        Check.same("loaded", lift.time(), 0);
    }

    private static void lastTime() {
        LiftScheduler lift = Check.loaded(HEAD + "call 0 1 at 999; run 998;");
        lift.run(1);
        Check.same("the last tick", lift.time(), 999);
        Check.wrongState("a tick more", () -> lift.run(1));
        Check.same("runToEnd", lift.runToEnd(), 0);
        Check.wrongArgument("a tick more of a script", () -> Check.play(lift, "run 1;"));
        Check.wrongArgument("an until of a script", () -> Check.play(lift, "until done 1;"));
        Check.same("a finish of a script", Check.play(lift, "finish;"), 1);
        Check.same("time", lift.time(), 999);
    }

    private static void lowestAndHighestFloor() {
        LiftScheduler lift = Check.loaded("lift 20 1 first; call 19 0; finish;");
        Check.same("boarded at 19", lift.boardedAt(0), 19);
        Check.same("left at 0", lift.leftAt(0), 39);
        Check.outOfBounds("waitingAt(20)", () -> lift.waitingAt(20));
        Check.outOfBounds("waitingAt(-1)", () -> lift.waitingAt(-1));
        Check.same("waitingAt(19)", lift.waitingAt(19), 0);
        Check.same("waitingAt(0)", lift.waitingAt(0), 0);
    }

    private static void fullOfCapacity() {
        for (int capacity = 1; capacity <= 8; capacity++) {
            LiftScheduler lift = Check.loaded("lift 2 " + capacity + " first; repeat 9 (call 0 1;);run 1;");
            Check.same("riders", lift.countStatus(LiftScheduler.RIDING), capacity);
            Check.same("waiting", lift.waitingAt(0), 9 - capacity);
            Check.same("full", lift.isFull(), true);
        }
    }

    // ---- promises 8 to 15 ----

    private static void floorCounts() {
        Check.same("new", new LiftScheduler().floorCount(), 10);
        for (int floors = 2; floors <= 20; floors++) {
            Check.same("floors", Check.loaded("lift " + floors + " 4 sweep;").floorCount(), floors);
        }
    }

    private static void capacities() {
        Check.same("new", new LiftScheduler().capacity(), 4);
        for (int capacity = 1; capacity <= 8; capacity++) {
            Check.same("loaded", Check.loaded("lift 10 " + capacity + " sweep;").capacity(), capacity);
            LiftScheduler lift = new LiftScheduler();
            lift.setCapacity(capacity);
            Check.same("set", lift.capacity(), capacity);
        }
    }

    private static void policies() {
        Check.same("new", new LiftScheduler().policy(), SWEEP);
        Check.same("first", Check.loaded("lift 10 4 first;").policy(), FIRST);
        Check.same("nearest", Check.loaded("lift 10 4 nearest;").policy(), NEAREST);
        Check.same("sweep", Check.loaded("lift 10 4 sweep;").policy(), SWEEP);
        for (int policy = FIRST; policy <= SWEEP; policy++) {
            LiftScheduler lift = new LiftScheduler();
            lift.setPolicy(policy);
            Check.same("set", lift.policy(), policy);
        }
    }

    private static void times() {
        LiftScheduler lift = new LiftScheduler();
        Check.same("no tick", lift.time(), 0);
        lift.run(1);
        Check.same("one tick", lift.time(), 1);
        lift.addPassenger(0, 1, 900);
        lift.ticksToFinish();
        Check.same("a forecast simulates none", lift.time(), 1);
        lift.run(998);
        Check.same("all ticks", lift.time(), 999);
    }

    private static void floors() {
        LiftScheduler lift = Check.loaded("lift 20 1 first; call 19 0;");
        Check.same("lowest", lift.floor(), 0);
        lift.run(18);
        Check.same("one below the highest", lift.floor(), 18);
        lift.run(1);
        Check.same("highest", lift.floor(), 19);
        lift.run(1);
        Check.same("highest, with the doors open", lift.floor(), 19);
        lift.run(1);
        Check.same("one below again", lift.floor(), 18);
        lift.run(999 - lift.time());
        Check.same("lowest again", lift.floor(), 0);
    }

    private static void directions() {
        LiftScheduler lift = Check.loaded("lift 2 1 sweep; call 1 0; run 2;");
        Check.same("at the highest floor", lift.isUpward(), true);
        lift.run(1);
        Check.same("away from it", lift.isUpward(), false);
        lift.run(3);
        Check.same("at the lowest floor", lift.isUpward(), false);
        Check.play(lift, "call 1 0; run 1;");
        Check.same("away from that", lift.isUpward(), true);
    }

    private static void full() {
        LiftScheduler lift = Check.loaded("lift 2 8 first; repeat 7 (call 0 1;); run 1;");
        Check.same("7 of 8", lift.isFull(), false);
        lift.setCapacity(7);
        Check.same("7 of 7", lift.isFull(), true);
        lift.setCapacity(8);
        Check.play(lift, "call 1 0;");
        lift.run(1);
        Check.same("on the way", lift.isFull(), false);
        LiftScheduler eight = Check.loaded("lift 2 8 first; repeat 8 (call 0 1;); run 1;");
        Check.same("8 of 8", eight.isFull(), true);
        LiftScheduler one = Check.loaded("lift 2 1 first; call 0 1; run 1;");
        Check.same("1 of 1", one.isFull(), true);
        one.run(2);
        Check.same("0 of 1", one.isFull(), false);
    }

    private static void emptyIsNotFull() {
        for (int capacity = 1; capacity <= 8; capacity++) {
            Check.same("new", Check.loaded("lift 2 " + capacity + " first;").isFull(), false);
        }
        Check.same("with those who wait", Check.loaded("lift 2 1 first; call 1 0; call 0 1;").isFull(), false);
    }

    private static void outermostStops() {
        LiftScheduler lift = Check.loaded("lift 20 1 first; call 0 19;");
        Check.same("floor 0", lift.stopMask(), 1);
        lift.run(1);
        Check.same("floor 19", lift.stopMask(), 1 << 19);
        LiftScheduler all = Check.loaded("lift 20 1 first; call 0 1;");
        for (int floor = 1; floor < 20; floor++) {
            all.addPassenger(floor, 0, 0);
        }
        Check.same("all floors", all.stopMask(), (1 << 20) - 1);
    }

    private static void noStops() {
        Check.same("nobody", new LiftScheduler().stopMask(), 0);
        Check.same("all are absent", Check.loaded(HEAD + "call 3 4 at 1;").stopMask(), 0);
        Check.same("all are done", Check.loaded(HEAD + "call 3 4; finish;").stopMask(), 0);
    }

    private static void stopsOfFullLift() {
        LiftScheduler lift = Check.loaded("lift 10 2 sweep; call 0 9; call 0 8; call 3 1; run 1;");
        Check.same("full", lift.stopMask(), 1 << 9 | 1 << 8);
        lift.setCapacity(3);
        Check.same("not full", lift.stopMask(), 1 << 9 | 1 << 8 | 1 << 3);
        lift.setCapacity(2);
        Check.same("full again", lift.stopMask(), 1 << 9 | 1 << 8);
    }

    private static void stopsOfStatus() {
        LiftScheduler lift = Check.loaded(HEAD + "call 2 6 at 5; run 4;");
        Check.same("absent", lift.stopMask(), 0);
        lift.run(1);
        Check.same("waiting: the origin alone", lift.stopMask(), 1 << 2);
        lift.run(3);
        Check.same("riding: the destination alone", lift.stopMask(), 1 << 6);
        lift.run(5);
        Check.same("done", lift.stopMask(), 0);
    }

    // ---- ticks ----

    private static void doorTick() {
        LiftScheduler lift = Check.loaded(HEAD + "call 0 1;");
        Check.same("run", lift.run(1), 0);
        Check.same("to board", Check.state(lift), "10 4 2 1 0 true 0 1 0 0: 0>1@0/0/-1");
        lift.run(2);
        Check.same("to leave", Check.state(lift), "10 4 2 3 1 true 1 2 0 0: 0>1@0/0/2");
    }

    private static void leaveThenBoard() {
        // Two leave the full lift at floor 3; two of the three who wait there take their places.
        LiftScheduler lift = Check.loaded("lift 10 2 sweep; call 0 3; call 0 3; call 3 9; call 3 8; call 3 7;"
                + "run 5;");
        Check.same("both leave", lift.leftAt(0) * 10 + lift.leftAt(1), 44);
        Check.same("both board", lift.boardedAt(2) * 10 + lift.boardedAt(3), 44);
        Check.same("the third does not", lift.boardedAt(4), NONE);
        Check.same("one tick", lift.doorTicks(), 2);
        // The other rider stays in the lift.
        LiftScheduler other = Check.loaded("lift 10 2 sweep; call 0 3; call 0 9; call 3 9; call 3 8; run 5;");
        Check.same("one leaves", other.ridingTo(9), 2);
        Check.same("one boards", other.waitingAt(3), 1);
    }

    private static void boardUntilFull() {
        // At floor 1 the one of time 0 comes first, then the two of time 1 by their numbers.
        LiftScheduler lift = Check.loaded("lift 10 2 nearest; call 1 5 at 1; call 1 5 at 1; call 1 5 at 0; run 2;");
        Check.same("the earliest", lift.boardedAt(2), 1);
        Check.same("the lower number", lift.boardedAt(0), 1);
        Check.same("nobody more", lift.boardedAt(1), NONE);
        LiftScheduler all = Check.loaded("lift 10 3 nearest; call 1 5 at 1; call 1 5 at 1; call 1 5 at 0; run 2;");
        Check.same("just room for all", all.boardedAt(1), 1);
        Check.same("and full", all.isFull(), true);
    }

    private static void fullLiftGoesOn() {
        LiftScheduler lift = Check.loaded("lift 10 1 nearest; call 0 9; call 0 8; call 1 8; run 1;");
        Check.same("a full lift at an origin moves", lift.run(1), 1);
        Check.same("past the next one", lift.run(1), 2);
        Check.same("no more door ticks", lift.doorTicks(), 1);
        lift.setCapacity(2);
        Check.same("with room it turns back", lift.run(1), 1);
    }

    private static void oneFloor() {
        LiftScheduler lift = Check.loaded("lift 20 4 sweep; call 19 0;");
        for (int floor = 1; floor <= 19; floor++) {
            Check.same("up", lift.run(1), floor);
            Check.same("distance up", lift.distance(), floor);
        }
        lift.run(1);
        for (int floor = 18; floor >= 0; floor--) {
            Check.same("down", lift.run(1), floor);
        }
        Check.same("distance up and down", lift.distance(), 38);
    }

    private static void idleTick() {
        LiftScheduler lift = Check.loaded(AT_5);
        String before = Check.state(lift);
        Check.same("before", before, "10 4 2 7 5 true 5 2 0 0: 0>5@0/0/6");
        lift.run(2);
        Check.same("two idle ticks", Check.state(lift), "10 4 2 9 5 true 5 2 2 0: 0>5@0/0/6");
    }

    private static void timeBeforeIncrease() {
        LiftScheduler lift = Check.loaded(HEAD + "call 0 1; run 1;");
        Check.same("boarded in the first tick", lift.boardedAt(0), 0);
        lift.run(2);
        Check.same("left in the third tick", lift.leftAt(0), 2);
        LiftScheduler last = Check.loaded(HEAD + "run 996; call 0 1; run 3;");
        Check.same("left in the last tick", last.leftAt(0), 998);
    }

    private static void arrivesAndBoards() {
        LiftScheduler lift = Check.loaded(HEAD + "call 0 1 at 4; run 4;");
        Check.same("idle before", lift.idleTicks(), 4);
        lift.run(1);
        Check.same("boarded", lift.boardedAt(0), 4);
        Check.same("waited", lift.waitOf(0), 0);
        // One who arrives a tick later has missed these doors, and has them opened again.
        LiftScheduler late = Check.loaded(HEAD + "call 0 9 at 4; call 0 9 at 5; run 6;");
        Check.same("boarded a tick later", late.boardedAt(1), 5);
        Check.same("by a door tick more", late.doorTicks(), 2);
    }

    private static void doorsBeforeWay() {
        // The target of FIRST_COME is floor 9, but the doors open at each stop on the way.
        LiftScheduler lift = Check.loaded("lift 10 4 first; call 0 9; call 3 4; call 0 4; run 6;");
        Check.same("boarded on the way", lift.boardedAt(1), 4);
        Check.same("goes on", lift.floor(), 4);
        lift.run(1);
        Check.same("left on the way", lift.leftAt(1) * 10 + lift.leftAt(2), 66);
    }

    // ---- policies and promise 16 ----

    private static void firstRider() {
        // Number 1 boards first, number 0 rides with it from floor 2 on.
        LiftScheduler lift = Check.loaded("lift 10 4 sweep; call 2 9 at 1; call 1 5; run 4; policy first;");
        Check.same("both ride", lift.countStatus(LiftScheduler.RIDING), 2);
        Check.same("the lowest number", lift.targetBy(FIRST), 9);
        // A waiting one of a lower number does not count while somebody rides.
        LiftScheduler one = Check.loaded("lift 10 4 first; call 7 1 at 2; call 0 5; run 3;");
        Check.same("the rider", one.targetBy(FIRST), 5);
    }

    private static void firstInQueue() {
        LiftScheduler lift = Check.loaded(AT_5 + "call 1 0 at 9; call 8 0 at 8; call 9 0; run 2;");
        Check.same("the earliest arrival", lift.targetBy(FIRST), 9);
        LiftScheduler same = Check.loaded(AT_5 + "call 8 0 at 8; call 2 0 at 8; call 3 0 at 9; run 2;");
        Check.same("of two the lower number", same.targetBy(FIRST), 8);
    }

    private static void lowerOfTwo() {
        LiftScheduler lift = Check.loaded(AT_5 + "call 7 0; call 3 0;");
        Check.same("3 and 7 at 5", lift.targetBy(NEAREST), 3);
        Check.same("9 and 0 at 5", Check.loaded(AT_5 + "call 9 0; call 0 9;").targetBy(NEAREST), 9);
        lift.setPolicy(NEAREST);
        Check.same("it goes there", lift.run(1), 4);
    }

    private static void smallestDistance() {
        Check.same("above", Check.loaded(AT_5 + "call 7 0; call 2 0;").targetBy(NEAREST), 7);
        Check.same("below", Check.loaded(AT_5 + "call 8 0; call 3 0;").targetBy(NEAREST), 3);
        Check.same("of two above", Check.loaded(AT_5 + "call 8 0; call 7 0;").targetBy(NEAREST), 7);
        Check.same("of two below", Check.loaded(AT_5 + "call 1 0; call 2 0;").targetBy(NEAREST), 2);
        Check.same("the lowest floor", Check.loaded(AT_5 + "call 0 1;").targetBy(NEAREST), 0);
        Check.same("the highest floor", Check.loaded(AT_5 + "call 9 1;").targetBy(NEAREST), 9);
    }

    private static void sweepKeeps() {
        LiftScheduler lift = Check.loaded(AT_5 + "call 4 0; call 9 0;");
        Check.same("up", lift.targetBy(SWEEP), 9);
        Check.same("goes up", lift.run(1), 6);
        Check.play(lift, "reverse;");
        Check.same("down", lift.targetBy(SWEEP), 4);
        Check.same("goes down", lift.run(1), 5);
        Check.same("no reversal", lift.reversals(), 0);
    }

    private static void sweepReverses() {
        LiftScheduler lift = Check.loaded(AT_5 + "call 4 0;");
        Check.same("nothing above", lift.targetBy(SWEEP), 4);
        lift.run(1);
        Check.same("down", lift.isUpward(), false);
        Check.same("floor", lift.floor(), 4);
        LiftScheduler other = Check.loaded(AT_5 + "reverse; call 6 0;");
        Check.same("nothing below", other.targetBy(SWEEP), 6);
        other.run(1);
        Check.same("up", other.isUpward(), true);
        Check.same("floor", other.floor(), 6);
    }

    private static void sweepNearest() {
        Check.same("up", Check.loaded(AT_5 + "call 9 0; call 8 0; call 4 0;").targetBy(SWEEP), 8);
        Check.same("down", Check.loaded(AT_5 + "reverse; call 1 0; call 2 0; call 6 0;").targetBy(SWEEP), 2);
        Check.same("reversed", Check.loaded(AT_5 + "call 0 1; call 1 0;").targetBy(SWEEP), 1);
    }

    private static void otherPoliciesKeepDirection() {
        for (String policy : new String[] {"first", "nearest"}) {
            LiftScheduler lift = Check.loaded(AT_5 + "policy " + policy + "; call 4 0; finish;");
            Check.same(policy + " goes down", lift.floor(), 0);
            Check.same(policy + " keeps up", lift.isUpward(), true);
            Check.play(lift, "reverse; call 9 8; run 5;");
            Check.same(policy + " goes up", lift.floor(), 5);
            Check.same(policy + " keeps down", lift.isUpward(), false);
            Check.same("reversals of " + policy, lift.reversals(), 0);
        }
    }

    private static void floorIsStop() {
        LiftScheduler lift = Check.loaded(AT_5 + "call 4 0; call 6 0; call 5 0;");
        for (int policy = FIRST; policy <= SWEEP; policy++) {
            Check.same("an origin, " + policy, lift.targetBy(policy), 5);
            Check.same("a destination, " + policy, Check.loaded(HEAD + "call 0 9; call 0 3; run 4;")
                    .targetBy(policy), 3);
            Check.same("no stop of a full lift, " + policy, Check.loaded("lift 10 1 sweep;"
                    + "call 0 9; call 0 8; run 1;").targetBy(policy), 9);
        }
    }

    private static void noTarget() {
        for (int policy = FIRST; policy <= SWEEP; policy++) {
            Check.same("nobody", new LiftScheduler().targetBy(policy), NONE);
            Check.same("absent", Check.loaded(HEAD + "call 3 4 at 1;").targetBy(policy), NONE);
            Check.same("done", Check.loaded(AT_5).targetBy(policy), NONE);
        }
    }

    private static void wrongPolicies() {
        LiftScheduler lift = Check.loaded(HEAD + "call 3 4;");
        for (int wrong : new int[] {-1, 3, Integer.MIN_VALUE, Integer.MAX_VALUE}) {
            Check.wrongArgument("targetBy " + wrong, () -> lift.targetBy(wrong));
            Check.wrongArgument("without a stop " + wrong, () -> new LiftScheduler().targetBy(wrong));
        }
    }

    private static void targetChangesNothing() {
        LiftScheduler lift = Check.loaded(AT_5 + "call 4 0;");
        String before = Check.everything(lift);
        for (int policy = FIRST; policy <= SWEEP; policy++) {
            lift.targetBy(policy);
            Check.same("all, after " + policy, Check.everything(lift), before);
        }
    }

    private static void targetOfOtherPolicies() {
        for (String policy : new String[] {"first", "nearest", "sweep"}) {
            LiftScheduler lift = Check.loaded(AT_5 + "policy " + policy + "; call 0 1; call 4 0; call 9 0;");
            Check.same("first by " + policy, lift.targetBy(FIRST), 0);
            Check.same("nearest by " + policy, lift.targetBy(NEAREST), 4);
            Check.same("sweep by " + policy, lift.targetBy(SWEEP), 9);
        }
    }

    // ---- promises 17 to 20 ----

    private static void moves() {
        LiftScheduler lift = new LiftScheduler();
        Check.same("at first", lift.distance(), 0);
        Check.play(lift, "call 0 1; run 1;");
        Check.same("after a door tick", lift.distance(), 0);
        lift.run(1);
        Check.same("after a move tick", lift.distance(), 1);
        lift.run(9);
        Check.same("after idle ticks", lift.distance(), 1);
        Check.play(lift, "call 0 1; finish;");
        Check.same("down and up", lift.distance(), 3);
    }

    private static void doors() {
        LiftScheduler lift = new LiftScheduler();
        Check.same("at first", lift.doorTicks(), 0);
        Check.play(lift, "call 0 1; call 0 1; run 1;");
        Check.same("two board", lift.doorTicks(), 1);
        lift.run(1);
        Check.same("after a move tick", lift.doorTicks(), 1);
        lift.run(9);
        Check.same("two leave, then idle ticks", lift.doorTicks(), 2);
    }

    private static void idles() {
        LiftScheduler lift = new LiftScheduler();
        Check.same("at first", lift.idleTicks(), 0);
        lift.run(2);
        Check.same("nobody", lift.idleTicks(), 2);
        Check.play(lift, "call 0 1; run 3;");
        Check.same("none as long as there is a stop", lift.idleTicks(), 2);
        lift.run(1);
        Check.same("all are done", lift.idleTicks(), 3);
    }

    private static void mostOfEach() {
        LiftScheduler idle = Check.loaded("lift 2 1 first; run 999;");
        Check.same("idle ticks", idle.idleTicks(), 999);
        LiftScheduler full = Check.loaded("lift 20 8 sweep;"
                + "repeat 9 (call 0 19; call 19 0; call 0 19; call 19 0;); capacity 1; run 999;");
        Check.same("all ticks", full.distance() + full.doorTicks() + full.idleTicks(), 999);
        Check.same("all are done", full.isFinished(), true);
        // Each of the 36 rides is a way of 19 floors, and at each end one leaves as one boards.
        Check.same("distance", full.distance(), 36 * 19);
        Check.same("door ticks", full.doorTicks(), 37);
    }

    private static void noReversals() {
        Check.same("at first", new LiftScheduler().reversals(), 0);
        Check.same("upwards alone", Check.loaded(HEAD + "call 0 9; finish;").reversals(), 0);
        Check.same("by another policy", Check.loaded("lift 10 4 first; call 9 0; finish;").reversals(), 0);
    }

    private static void reversals() {
        LiftScheduler lift = Check.loaded("lift 2 1 sweep; repeat 9 (call 1 0;); finish;");
        Check.same("nine times down, eight times up again", lift.reversals(), 17);
    }

    private static void reversalWithMove() {
        LiftScheduler lift = Check.loaded("lift 2 1 sweep; call 1 0; run 2;");
        Check.same("before", lift.reversals(), 0);
        lift.run(1);
        Check.same("with the move", lift.reversals(), 1);
        lift.run(9);
        Check.same("not again", lift.reversals(), 1);
        // Turned by hand and turned back by the policy at once.
        LiftScheduler turned = Check.loaded(HEAD + "reverse; call 3 4; run 1;");
        Check.same("one turned by hand is turned back", turned.reversals(), 1);
        Check.same("up again", turned.isUpward(), true);
    }
}
