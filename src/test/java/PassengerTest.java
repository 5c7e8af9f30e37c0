import java.util.function.IntUnaryOperator;

/** Promises 21 to 38: single passengers and groups of them. */
public final class PassengerTest {
    private static final int NONE = LiftScheduler.NONE;
    private static final int ABSENT = LiftScheduler.ABSENT;
    private static final int WAITING = LiftScheduler.WAITING;
    private static final int RIDING = LiftScheduler.RIDING;
    private static final int DONE = LiftScheduler.DONE;
    private static final String THREE = "lift 10 4 sweep; call 3 7; call 1 0; call 5 2 at 4;";
    // The lift leaves floor 0 full, while the others come: 4 first, then 2 and 3 together, then 1.
    private static final String QUEUE = "lift 20 1 first; call 0 19; call 2 5 at 9; call 2 6 at 3;"
            + "call 2 7 at 3; call 4 1 at 1;";

    public static void main(String[] args) {
        given();
        statuses();
        boarding();
        leaving();
        noSuchPassenger();
        countedStatuses();
        queues();
        ridersTo();
        origins();
        between();
        arrivals();
        undonePassengers();
        noSuchFloor();
        Check.end();
    }

    private static void given() {
        LiftScheduler lift = Check.loaded(THREE);
        Check.same("passengerCount", lift.passengerCount(), 3);
        Check.same("no passengers", new LiftScheduler().passengerCount(), 0);
        Check.same("originOf", answers(lift::originOf), "3 1 5 ");
        Check.same("destinationOf", answers(lift::destinationOf), "7 0 2 ");
        Check.same("arrivalOf", answers(lift::arrivalOf), "0 0 4 ");
        lift.runToEnd();
        Check.same("passengerCount at the end", lift.passengerCount(), 3);
        Check.same("originOf at the end", answers(lift::originOf), "3 1 5 ");
        LiftScheduler many = new LiftScheduler();
        for (int i = 0; i < 40; i++) {
            many.addPassenger(i % 10, (i + 1) % 10, 2 * i);
        }
        Check.same("40 passengers", many.passengerCount(), 40);
        Check.same("origin of the last", many.originOf(39), 9);
        Check.same("arrival of the last", many.arrivalOf(39), 78);
        Check.outOfBounds("originOf(40)", () -> many.originOf(40));
    }

    private static void statuses() {
        LiftScheduler lift = Check.loaded(THREE);
        Check.same("at 0", answers(lift::statusOf), WAITING + " " + WAITING + " " + ABSENT + " ");
        lift.run(2);
        Check.same("at 2", answers(lift::statusOf), WAITING + " " + RIDING + " " + ABSENT + " ");
        lift.run(1);
        Check.same("at 3", lift.statusOf(2), ABSENT);
        lift.run(1);
        Check.same("at 4", lift.statusOf(2), WAITING);
        lift.run(6);
        Check.same("at 10", lift.statusOf(0), RIDING);
        lift.run(1);
        Check.same("at 11", answers(lift::statusOf), DONE + " " + RIDING + " " + RIDING + " ");
    }

    private static void boarding() {
        LiftScheduler lift = Check.loaded(THREE);
        Check.same("boardedAt at 0", answers(lift::boardedAt), "-1 -1 -1 ");
        Check.same("waitOf at 0", answers(lift::waitOf), "-1 -1 -1 ");
        lift.run(4);
        Check.same("boardedAt at 4", answers(lift::boardedAt), "-1 1 -1 ");
        Check.same("waitOf at 4", answers(lift::waitOf), "-1 1 -1 ");
        lift.run(995);
        Check.same("boardedAt at the end", answers(lift::boardedAt), "4 1 7 ");
        Check.same("waitOf at the end", answers(lift::waitOf), "4 1 3 ");
        LiftScheduler atOnce = Check.loaded("lift 10 4 sweep; run 2; call 0 1; run 1;");
        Check.same("no waiting", atOnce.waitOf(0), 0);
        Check.same("boarded at 2", atOnce.boardedAt(0), 2);
    }

    private static void leaving() {
        LiftScheduler lift = Check.loaded(THREE);
        lift.run(10);
        Check.same("leftAt at 10", answers(lift::leftAt), "-1 -1 -1 ");
        Check.same("rideOf at 10", answers(lift::rideOf), "-1 -1 -1 ");
        Check.same("detourOf at 10", answers(lift::detourOf), "-1 -1 -1 ");
        lift.run(7);
        Check.same("leftAt at 17", answers(lift::leftAt), "10 -1 16 ");
        Check.same("rideOf at 17", answers(lift::rideOf), "6 -1 9 ");
        Check.same("detourOf at 17", answers(lift::detourOf), "1 -1 5 ");
        lift.run(3);
        Check.same("leftAt at the end", answers(lift::leftAt), "10 19 16 ");
        Check.same("rideOf at the end", answers(lift::rideOf), "6 18 9 ");
        Check.same("detourOf at the end", answers(lift::detourOf), "1 16 5 ");
        LiftScheduler direct = Check.loaded("lift 10 4 sweep; call 0 9; finish; call 9 2; finish;");
        Check.same("direct ride", direct.rideOf(0), 10);
        Check.same("no detour upwards", direct.detourOf(0), 0);
        Check.same("no detour downwards", direct.detourOf(1), 0);
    }

    private static void noSuchPassenger() {
        for (int wrong : new int[] {-1, 3, 40, Integer.MIN_VALUE, Integer.MAX_VALUE}) {
            LiftScheduler lift = Check.loaded(THREE);
            Check.outOfBounds("statusOf " + wrong, () -> lift.statusOf(wrong));
            Check.outOfBounds("originOf " + wrong, () -> lift.originOf(wrong));
            Check.outOfBounds("destinationOf " + wrong, () -> lift.destinationOf(wrong));
            Check.outOfBounds("arrivalOf " + wrong, () -> lift.arrivalOf(wrong));
            Check.outOfBounds("boardedAt " + wrong, () -> lift.boardedAt(wrong));
            Check.outOfBounds("leftAt " + wrong, () -> lift.leftAt(wrong));
            Check.outOfBounds("waitOf " + wrong, () -> lift.waitOf(wrong));
            Check.outOfBounds("rideOf " + wrong, () -> lift.rideOf(wrong));
            Check.outOfBounds("detourOf " + wrong, () -> lift.detourOf(wrong));
        }
        // A passenger who is undone is none, though the row is still there.
        LiftScheduler undone = new LiftScheduler();
        undone.addPassenger(1, 2, 0);
        undone.undo();
        Check.outOfBounds("originOf an undone passenger", () -> undone.originOf(0));
    }

    private static void countedStatuses() {
        LiftScheduler lift = Check.loaded(THREE);
        Check.same("counts at 0", counts(lift), "1 2 0 0 ");
        lift.run(2);
        Check.same("counts at 2", counts(lift), "1 1 1 0 ");
        lift.run(9);
        Check.same("counts at 11", counts(lift), "0 0 2 1 ");
        Check.same("counts of nobody", counts(new LiftScheduler()), "0 0 0 0 ");
        Check.wrongArgument("countStatus(-1)", () -> lift.countStatus(-1));
        Check.wrongArgument("countStatus(4)", () -> lift.countStatus(4));
    }

    private static String counts(LiftScheduler lift) {
        StringBuilder text = new StringBuilder();
        for (int status : new int[] {ABSENT, WAITING, RIDING, DONE}) {
            text.append(lift.countStatus(status)).append(' ');
        }
        return text.toString();
    }

    private static void queues() {
        LiftScheduler lift = Check.loaded(QUEUE);
        Check.same("firstWaiting at 0", lift.firstWaiting(), 0);
        Check.same("queue of floor 0 at 0", lift.queueAt(0, 0), 0);
        Check.same("only one", lift.queueAt(0, 1), NONE);
        lift.run(1);
        Check.same("firstWaiting at 1", lift.firstWaiting(), 4);
        Check.same("nobody waits at 2 yet", lift.waitingAt(2), 0);
        lift.run(7);
        Check.same("two wait at 2", lift.waitingAt(2), 2);
        Check.same("the last one has not come", lift.queueAt(2, 2), NONE);
        lift.run(4);
        Check.same("the lift is away", lift.floor(), 11);
        Check.same("three wait at 2", lift.waitingAt(2), 3);
        Check.same("one waits at 4", lift.waitingAt(4), 1);
        Check.same("nobody waits at 0", lift.waitingAt(0), 0);
        Check.same("nobody waits at 19", lift.waitingAt(19), 0);
        Check.same("first in the queue", lift.queueAt(2, 0), 2);
        Check.same("second in the queue", lift.queueAt(2, 1), 3);
        Check.same("third in the queue", lift.queueAt(2, 2), 1);
        Check.same("no fourth", lift.queueAt(2, 3), NONE);
        Check.same("position -1", lift.queueAt(2, -1), NONE);
        Check.same("least position", lift.queueAt(2, Integer.MIN_VALUE), NONE);
        Check.same("greatest position", lift.queueAt(2, Integer.MAX_VALUE), NONE);
        Check.same("queue of floor 4", lift.queueAt(4, 0), 4);
        Check.same("queue of floor 3", lift.queueAt(3, 0), NONE);
        Check.same("firstWaiting at 12", lift.firstWaiting(), 4);
        lift.runToEnd();
        Check.same("boarding in queue order", answersOf(5, lift::boardedAt), "0 64 42 52 36 ");
        Check.same("nobody waits at the end", lift.firstWaiting(), NONE);
        Check.same("nobody at all", new LiftScheduler().firstWaiting(), NONE);
        LiftScheduler absent = Check.loaded("lift 10 4 sweep; call 5 6 at 4; call 5 6 at 3;");
        Check.same("nobody yet", absent.firstWaiting(), NONE);
        absent.run(3);
        Check.same("the earlier one", absent.firstWaiting(), 1);
    }

    private static void ridersTo() {
        LiftScheduler lift = Check.loaded("lift 10 8 sweep; call 0 9; call 0 4; call 0 9; call 9 4;");
        Check.same("nobody rides", lift.ridingTo(9), 0);
        lift.run(1);
        Check.same("two ride to 9", lift.ridingTo(9), 2);
        Check.same("one rides to 4", lift.ridingTo(4), 1);
        Check.same("nobody rides to 0", lift.ridingTo(0), 0);
        lift.run(5);
        Check.same("the one has left", lift.ridingTo(4), 0);
    }

    private static void origins() {
        Check.same("nobody starts", new LiftScheduler().busiestOrigin(), NONE);
        LiftScheduler lift = Check.loaded("lift 10 4 sweep; call 7 1 at 900; call 2 1; call 9 1; call 9 2;");
        Check.same("two from 9", lift.busiestOrigin(), 9);
        lift.addPassenger(7, 2, 0);
        Check.same("the lower one", lift.busiestOrigin(), 7);
        lift.run(800);
        Check.same("whatever their status is", lift.busiestOrigin(), 7);
        Check.same("floor 0", Check.loaded("lift 2 1 first; call 1 0; call 0 1;").busiestOrigin(), 0);
    }

    private static void between() {
        LiftScheduler lift = Check.loaded("lift 10 4 sweep; call 3 7; call 7 3; call 3 7 at 99; call 3 8;");
        Check.same("from 3 to 7", lift.passengersBetween(3, 7), 2);
        Check.same("from 7 to 3", lift.passengersBetween(7, 3), 1);
        Check.same("from 3 to 3", lift.passengersBetween(3, 3), 0);
        Check.same("from 8 to 3", lift.passengersBetween(8, 3), 0);
        lift.run(90);
        Check.same("whatever their status is", lift.passengersBetween(3, 7), 2);
    }

    private static void arrivals() {
        LiftScheduler lift = Check.loaded("lift 10 4 sweep; call 3 7 at 9; call 7 3 at 5; call 3 7;");
        Check.same("nextArrival at 0", lift.nextArrival(), 5);
        lift.run(4);
        Check.same("nextArrival at 4", lift.nextArrival(), 5);
        lift.run(1);
        Check.same("nextArrival at 5", lift.nextArrival(), 9);
        lift.run(4);
        Check.same("nextArrival at 9", lift.nextArrival(), NONE);
        Check.same("nextArrival of nobody", new LiftScheduler().nextArrival(), NONE);
        Check.same("last arrival", Check.loaded("lift 9 1 first; call 1 2 at 999;").nextArrival(), 999);
    }

    /** Rows of passengers who are undone must not be read. */
    private static void undonePassengers() {
        LiftScheduler absent = Check.undone("call 5 6 at 9;");
        LiftScheduler waiting = Check.undone("call 5 6; run 1;");
        LiftScheduler riding = Check.undone("call 0 6; run 1;");
        Check.same("queueAt", waiting.queueAt(5, 0), NONE);
        Check.same("waitingAt", waiting.waitingAt(5), 0);
        Check.same("firstWaiting", waiting.firstWaiting(), NONE);
        Check.same("ridingTo", riding.ridingTo(6), 0);
        Check.same("busiestOrigin", riding.busiestOrigin(), NONE);
        Check.same("passengersBetween", riding.passengersBetween(0, 6), 0);
        Check.same("nextArrival", absent.nextArrival(), NONE);
        Check.same("counts", counts(absent) + counts(waiting) + counts(riding),
                "0 0 0 0 0 0 0 0 0 0 0 0 ");
        LiftScheduler full = new LiftScheduler();
        Check.play(full, "repeat 8 (call 1 2; call 0 9; call 0 8; call 3 4; call 9 0 at 99;);");
        full.run(3);
        Check.same("all rows in use", full.passengerCount(), 40);
        Check.same("queueAt of 40", full.queueAt(0, 99), NONE);
        Check.same("passengersBetween of 40", full.passengersBetween(0, 9), 8);
        Check.same("ridingTo of 40", full.ridingTo(9) + full.ridingTo(8), 4);
        Check.same("nextArrival of 40", full.nextArrival(), 99);
        Check.same("busiestOrigin of 40", full.busiestOrigin(), 0);
    }

    private static void noSuchFloor() {
        for (int wrong : new int[] {-1, 5, 20, Integer.MIN_VALUE, Integer.MAX_VALUE}) {
            LiftScheduler lift = Check.loaded("lift 5 4 sweep; call 3 2;");
            Check.outOfBounds("waitingAt " + wrong, () -> lift.waitingAt(wrong));
            Check.outOfBounds("queueAt " + wrong, () -> lift.queueAt(wrong, 0));
            Check.outOfBounds("queueAt -1 at " + wrong, () -> lift.queueAt(wrong, -1));
            Check.outOfBounds("ridingTo " + wrong, () -> lift.ridingTo(wrong));
            Check.outOfBounds("between, origin " + wrong, () -> lift.passengersBetween(wrong, 0));
            Check.outOfBounds("between, destination " + wrong, () -> lift.passengersBetween(0, wrong));
        }
    }

    private static String answers(IntUnaryOperator call) {
        return answersOf(3, call);
    }

    private static String answersOf(int passengers, IntUnaryOperator call) {
        StringBuilder text = new StringBuilder();
        for (int i = 0; i < passengers; i++) {
            text.append(call.applyAsInt(i)).append(' ');
        }
        return text.toString();
    }
}
