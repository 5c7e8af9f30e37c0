/** Promises 8 to 20: the building, the lift, the policies and the ticks. */
public final class LiftTest {
    private static final int NONE = LiftScheduler.NONE;
    private static final int FIRST = LiftScheduler.FIRST_COME;
    private static final int NEAREST = LiftScheduler.NEAREST;
    private static final int SWEEP = LiftScheduler.SWEEP;

    public static void main(String[] args) {
        building();
        timeAndFloor();
        direction();
        full();
        stops();
        targetsOfPolicies();
        targetsOfSweep();
        targetsOfNobody();
        wrongPolicies();
        ticks();
        doorTickOfFullLift();
        wayOfFirstCome();
        wayOfNearest();
        wayOfSweep();
        Check.end();
    }

    private static void building() {
        LiftScheduler least = Check.loaded("lift 2 1 first;");
        Check.same("least floorCount", least.floorCount(), 2);
        Check.same("least capacity", least.capacity(), 1);
        Check.same("policy first", least.policy(), FIRST);
        LiftScheduler most = Check.loaded("lift 20 8 nearest;");
        Check.same("greatest floorCount", most.floorCount(), 20);
        Check.same("greatest capacity", most.capacity(), 8);
        Check.same("policy nearest", most.policy(), NEAREST);
        Check.same("policy sweep", new LiftScheduler().policy(), SWEEP);
        most.setCapacity(3);
        most.setPolicy(SWEEP);
        Check.same("set capacity", most.capacity(), 3);
        Check.same("set policy", most.policy(), SWEEP);
    }

    private static void timeAndFloor() {
        LiftScheduler lift = new LiftScheduler();
        Check.same("new time", lift.time(), 0);
        Check.same("new floor", lift.floor(), 0);
        lift.addPassenger(9, 0, 0);
        lift.run(4);
        Check.same("time", lift.time(), 4);
        Check.same("floor", lift.floor(), 4);
        lift.run(995);
        Check.same("last time", lift.time(), 999);
        Check.same("last floor", lift.floor(), 0);
    }

    private static void direction() {
        LiftScheduler lift = Check.loaded("lift 10 4 sweep; call 4 1; run 5;");
        Check.same("up on arrival", lift.isUpward(), true);
        Check.same("no reversal yet", lift.reversals(), 0);
        lift.run(1);
        Check.same("down", lift.isUpward(), false);
        Check.same("one reversal", lift.reversals(), 1);
        lift.runToEnd();
        Check.same("down when it is over", lift.isUpward(), false);
        lift.addPassenger(1, 2, lift.time());
        lift.run(2);
        Check.same("up again", lift.isUpward(), true);
        Check.same("two reversals", lift.reversals(), 2);
        LiftScheduler other = Check.loaded("lift 10 4 nearest; call 4 1; finish;"
                + "policy first; call 9 0; finish;");
        Check.same("only SWEEP changes the direction", other.isUpward(), true);
        Check.same("no reversals", other.reversals(), 0);
        // A reversal that a door tick or an idle tick finds nothing to do with.
        LiftScheduler still = Check.loaded("lift 10 4 sweep; reverse; run 3;");
        Check.same("idle keeps the direction", still.isUpward(), false);
        still.addPassenger(0, 1, 3);
        still.run(1);
        Check.same("the doors keep the direction", still.isUpward(), false);
    }

    private static void full() {
        LiftScheduler lift = Check.loaded("lift 10 2 sweep; call 0 9; call 0 8;");
        Check.same("empty lift", lift.isFull(), false);
        lift.run(1);
        Check.same("full lift", lift.isFull(), true);
        lift.setCapacity(3);
        Check.same("room for one more", lift.isFull(), false);
        lift.setCapacity(2);
        lift.run(9);
        Check.same("one has left", lift.isFull(), false);
    }

    private static void stops() {
        LiftScheduler lift = Check.loaded("lift 20 2 sweep; call 0 19; call 0 7; call 3 1; call 2 5 at 4;");
        Check.same("origins", lift.stopMask(), 1 | 1 << 3);
        lift.run(1);
        Check.same("full: destinations alone", lift.stopMask(), 1 << 19 | 1 << 7);
        lift.setCapacity(3);
        Check.same("room: origins too", lift.stopMask(), 1 << 19 | 1 << 7 | 1 << 3);
        lift.run(2);
        Check.same("not yet arrived", lift.stopMask(), 1 << 19 | 1 << 7 | 1 << 3);
        lift.run(1);
        Check.same("arrived", lift.stopMask(), 1 << 19 | 1 << 7 | 1 << 3 | 1 << 2);
        lift.runToEnd();
        Check.same("none at the end", lift.stopMask(), 0);
        Check.same("none at first", new LiftScheduler().stopMask(), 0);
    }

    private static void targetsOfPolicies() {
        LiftScheduler lift = Check.loaded("lift 10 4 nearest; call 5 9; run 6; call 3 0; call 7 0;");
        Check.same("the lift is at 5", lift.floor(), 5);
        Check.same("first: the rider", lift.targetBy(FIRST), 9);
        Check.same("nearest: the lower of two", lift.targetBy(NEAREST), 3);
        Check.same("sweep: upwards", lift.targetBy(SWEEP), 7);
        Check.play(lift, "reverse;");
        Check.same("sweep: downwards", lift.targetBy(SWEEP), 3);
        Check.play(lift, "call 6 1;");
        Check.same("nearest: one floor", lift.targetBy(NEAREST), 6);
        Check.play(lift, "call 5 0;");
        for (int policy = FIRST; policy <= SWEEP; policy++) {
            Check.same("the floor is a stop, " + policy, lift.targetBy(policy), 5);
            Check.same("no stop, " + policy, new LiftScheduler().targetBy(policy), NONE);
        }
        // Two riders: the lowest number counts, not who boarded first.
        LiftScheduler riders = Check.loaded("lift 10 4 first; call 2 8 at 5; call 1 7; run 3;");
        Check.same("the only rider", riders.targetBy(FIRST), 7);
        riders = Check.loaded("lift 10 4 sweep; call 2 8 at 2; call 1 7; run 4;");
        Check.same("both ride", riders.countStatus(LiftScheduler.RIDING), 2);
        Check.same("the lower number", riders.targetBy(FIRST), 8);
        // Nobody rides: the queue order counts, not the number.
        LiftScheduler waiting = Check.loaded("lift 10 4 sweep; run 3; call 4 0 at 5; call 8 0 at 4;"
                + "call 6 0 at 4; capacity 1; run 1;");
        Check.same("the first arrival", waiting.targetBy(FIRST), 8);
        Check.same("nearest of the arrived", waiting.targetBy(NEAREST), 6);
    }

    private static void targetsOfSweep() {
        LiftScheduler lift = Check.loaded("lift 10 4 sweep; call 5 2; run 6; ");
        Check.same("it would turn", lift.targetBy(SWEEP), 2);
        Check.same("only below, nearest", lift.targetBy(NEAREST), 2);
        Check.same("asking does not turn", lift.isUpward(), true);
        Check.same("asking is no reversal", lift.reversals(), 0);
        Check.same("asking is no change", lift.undoDepth(), 0);
        lift = Check.loaded("lift 10 4 first; reverse; call 3 0; call 2 0;");
        Check.same("it would turn upwards", lift.targetBy(SWEEP), 2);
        Check.same("asking does not turn upwards", lift.isUpward(), false);
    }

    private static void targetsOfNobody() {
        LiftScheduler waited = Check.undone("call 5 6; run 1;");
        LiftScheduler rode = Check.undone("call 0 6; run 1;");
        Check.same("no stop of an undone call", waited.stopMask(), 0);
        Check.same("no stop of an undone ride", rode.stopMask(), 0);
        // The undone ride must not be taken for one: nobody rides, one waits.
        rode.addPassenger(3, 4, 0);
        Check.same("first: who waits", rode.targetBy(FIRST), 3);
        LiftScheduler both = Check.loaded("lift 10 4 first; call 5 9;");
        Check.play(both, "call 1 7; run 2;");
        both.undo();
        Check.same("first: not who rode before undo", both.targetBy(FIRST), 5);
    }

    private static void wrongPolicies() {
        LiftScheduler lift = new LiftScheduler();
        Check.wrongArgument("targetBy(-1)", () -> lift.targetBy(-1));
        Check.wrongArgument("targetBy(3)", () -> lift.targetBy(3));
        Check.wrongArgument("targetBy(least)", () -> lift.targetBy(Integer.MIN_VALUE));
    }

    private static void ticks() {
        LiftScheduler lift = Check.loaded("lift 10 4 sweep; call 3 1 at 5;");
        lift.run(5);
        Check.same("idle ticks", lift.idleTicks(), 5);
        Check.same("no move yet", lift.distance(), 0);
        lift.run(3);
        Check.same("moves", lift.distance(), 3);
        Check.same("no door tick yet", lift.doorTicks(), 0);
        lift.run(1);
        Check.same("a door tick", lift.doorTicks(), 1);
        lift.run(10);
        Check.same("all idle ticks", lift.idleTicks(), 12);
        Check.same("all moves", lift.distance(), 5);
        Check.same("all door ticks", lift.doorTicks(), 2);
        Check.same("the time is their sum", lift.time(), 19);
    }

    private static void doorTickOfFullLift() {
        // At floor 3 one leaves the full lift, and one of two boards in the same tick.
        LiftScheduler lift = Check.loaded("lift 10 1 sweep; call 0 3; call 3 0; call 3 9; run 5;");
        Check.same("one has left", lift.leftAt(0), 4);
        Check.same("one has boarded", lift.boardedAt(1), 4);
        Check.same("one waits", lift.boardedAt(2), NONE);
        Check.same("one door tick", lift.doorTicks(), 2);
        // A full lift passes those who wait.
        lift = Check.loaded("lift 10 1 nearest; call 0 9; call 4 9; run 10; expect floor 9;");
        Check.same("passed", lift.statusOf(1), LiftScheduler.WAITING);
        Check.same("no stop", lift.doorTicks(), 1);
    }

    private static void wayOfFirstCome() {
        Check.same("way of FIRST_COME", way("first"), "33456677654321123456788");
        // The target is the rider of the lowest number, also when others are nearer.
        LiftScheduler lift = Check.loaded("lift 10 4 first; call 0 9; call 0 1; call 2 0; run 12;");
        Check.same("stops on its way", lift.leftAt(1), 2);
        Check.same("boards on its way", lift.boardedAt(2), 4);
        Check.same("goes on", lift.floor(), 9);
    }

    private static void wayOfNearest() {
        Check.same("way of NEAREST", way("nearest"), "3321123456776678876543211");
    }

    private static void wayOfSweep() {
        Check.same("way of SWEEP", way("sweep"), "5665433211234567788");
    }

    /** The floors after each tick of one and the same building, from floor 4 to the end. */
    private static String way(String policy) {
        LiftScheduler lift = Check.loaded("lift 10 2 sweep; call 0 4; finish; policy " + policy
                + "; call 1 8; call 3 7; call 6 1;");
        StringBuilder floors = new StringBuilder();
        while (!lift.isFinished() && floors.length() < 100) {
            floors.append(lift.run(1));
        }
        return floors.toString();
    }
}
