import java.util.function.ToIntBiFunction;

/** A test for each sentence of promises 21 to 38 that names a boundary case. */
public final class BoundaryPassengerTest {
    private static final int NONE = LiftScheduler.NONE;
    private static final int ABSENT = LiftScheduler.ABSENT;
    private static final int WAITING = LiftScheduler.WAITING;
    private static final int RIDING = LiftScheduler.RIDING;
    private static final int DONE = LiftScheduler.DONE;
    private static final int[] NO_NUMBERS = {-1, -2, 20, 40, 41, Integer.MIN_VALUE, Integer.MAX_VALUE};
    private static final String HEAD = "lift 10 4 sweep;";
    // Arrives at 3, boards at 5 and leaves at 10.
    private static final String ONE = HEAD + "call 2 6 at 3;";

    public static void main(String[] args) {
        terms();
        single();
        Check.holds("31: ABSENT, WAITING, RIDING or DONE", BoundaryPassengerTest::eachStatusCounted);
        Check.holds("31: the number of passengers, 0 and 40", BoundaryPassengerTest::leastAndMostOfStatus);
        Check.holds("31: IllegalArgumentException", BoundaryPassengerTest::noSuchStatus);
        queues();
        groups();
        Check.end();
    }

    private static void terms() {
        Check.holds("at most 40 passengers", BoundaryPassengerTest::atMost40);
        Check.holds("numbered from 0 in the order in which they were added", BoundaryPassengerTest::numbered);
        Check.holds("ABSENT as long as the time is less", BoundaryPassengerTest::absentUntilArrival);
        Check.holds("WAITING until boarding", BoundaryPassengerTest::waitingUntilBoarding);
        Check.holds("RIDING until leaving", BoundaryPassengerTest::ridingUntilLeaving);
        Check.holds("DONE afterwards", BoundaryPassengerTest::doneAfterwards);
        Check.holds("an arrival time from 0 to 999", BoundaryPassengerTest::arrivalTimes);
        Check.holds("the smaller arrival time comes first", BoundaryPassengerTest::smallerArrivalFirst);
        Check.holds("if both arrived at the same time, the lower number", BoundaryPassengerTest::lowerNumberFirst);
    }

    private static void single() {
        Check.holds("21: the number of all passengers", BoundaryPassengerTest::leastAndMostPassengers);
        Check.holds("21: whatever their status is", BoundaryPassengerTest::passengersOfEachStatus);
        noSuchPassenger("22: statusOf", LiftScheduler::statusOf);
        noSuchPassenger("23: originOf", LiftScheduler::originOf);
        noSuchPassenger("24: destinationOf", LiftScheduler::destinationOf);
        noSuchPassenger("25: arrivalOf", LiftScheduler::arrivalOf);
        noSuchPassenger("26: boardedAt", LiftScheduler::boardedAt);
        noSuchPassenger("27: leftAt", LiftScheduler::leftAt);
        noSuchPassenger("28: waitOf", LiftScheduler::waitOf);
        noSuchPassenger("29: rideOf", LiftScheduler::rideOf);
        noSuchPassenger("30: detourOf", LiftScheduler::detourOf);
        Check.holds("23 and 24: the lowest and highest floor", BoundaryPassengerTest::outermostFloors);
        Check.holds("23 to 25: of the last one of 40", BoundaryPassengerTest::lastOf40);
        Check.holds("26: NONE if the passenger has not boarded", BoundaryPassengerTest::notBoarded);
        Check.holds("26: the time 0", BoundaryPassengerTest::boardedAtOnce);
        Check.holds("27: NONE if the passenger has not left it", BoundaryPassengerTest::notLeft);
        Check.holds("28: NONE if the passenger has not boarded", BoundaryPassengerTest::noWait);
        Check.holds("28: the waiting time, 0", BoundaryPassengerTest::waitOfNothing);
        Check.holds("29: NONE if the passenger has not left the lift", BoundaryPassengerTest::noRide);
        Check.holds("29: the shortest ride", BoundaryPassengerTest::shortestRide);
        Check.holds("30: NONE if the passenger has not left the lift", BoundaryPassengerTest::noDetour);
        Check.holds("30: a direct ride has the detour 0", BoundaryPassengerTest::directRide);
        Check.holds("30: a detour that is not 0", BoundaryPassengerTest::detour);
    }

    private static void queues() {
        Check.holds("32: waiting passengers with this origin", BoundaryPassengerTest::waitingAlone);
        Check.holds("32: 0 and 40", BoundaryPassengerTest::leastAndMostWaiting);
        noSuchFloor("32: waitingAt", LiftScheduler::waitingAt);
        Check.holds("33: position from 0", BoundaryPassengerTest::positions);
        Check.holds("33: NONE if there is no such position", BoundaryPassengerTest::noSuchPosition);
        Check.holds("33: waiting passengers of the floor alone", BoundaryPassengerTest::queueOfFloorAlone);
        noSuchFloor("33: queueAt", (lift, floor) -> lift.queueAt(floor, 0));
        noSuchFloor("33: queueAt without position", (lift, floor) -> lift.queueAt(floor, -1));
        Check.holds("34: comes first in queue order", BoundaryPassengerTest::firstWaiting);
        Check.holds("34: NONE if nobody is waiting", BoundaryPassengerTest::nobodyWaiting);
        Check.holds("35: riding passengers with this destination", BoundaryPassengerTest::ridingAlone);
        Check.holds("35: 0 and 8", BoundaryPassengerTest::leastAndMostRiding);
        noSuchFloor("35: ridingTo", LiftScheduler::ridingTo);
    }

    private static void groups() {
        Check.holds("36: the lowest one of several", BoundaryPassengerTest::lowestBusiest);
        Check.holds("36: whatever their status is", BoundaryPassengerTest::busiestOfEachStatus);
        Check.holds("36: NONE without passengers", BoundaryPassengerTest::noBusiest);
        Check.holds("36: the lowest and highest floor", BoundaryPassengerTest::outermostBusiest);
        Check.holds("37: this origin and this destination", BoundaryPassengerTest::bothFloors);
        Check.holds("37: whatever their status is", BoundaryPassengerTest::betweenOfEachStatus);
        Check.holds("37: 0 and 40", BoundaryPassengerTest::leastAndMostBetween);
        noSuchFloor("37: origin", (lift, floor) -> lift.passengersBetween(floor, 0));
        noSuchFloor("37: destination", (lift, floor) -> lift.passengersBetween(0, floor));
        noSuchFloor("37: both", (lift, floor) -> lift.passengersBetween(floor, floor));
        Check.holds("38: the smallest arrival time", BoundaryPassengerTest::smallestArrival);
        Check.holds("38: of an ABSENT passenger", BoundaryPassengerTest::absentAlone);
        Check.holds("38: NONE if there is none", BoundaryPassengerTest::noArrival);
        Check.holds("38: up to 999", BoundaryPassengerTest::lastArrival);
    }

    /** Calls for numbers that are no passengers, of nobody, one, 40 and one who is undone. */
    private static void noSuchPassenger(String what, ToIntBiFunction<LiftScheduler, Integer> call) {
        Check.holds(what + ": IndexOutOfBoundsException", () -> {
            LiftScheduler one = Check.loaded(ONE);
            for (int wrong : NO_NUMBERS) {
                Check.outOfBounds("number " + wrong, () -> call.applyAsInt(one, wrong));
            }
            Check.outOfBounds("1 of 1", () -> call.applyAsInt(one, 1));
            Check.outOfBounds("0 of 0", () -> call.applyAsInt(new LiftScheduler(), 0));
            LiftScheduler most = Check.loaded(HEAD + "call 0 1;".repeat(40));
            call.applyAsInt(most, 39);
            Check.outOfBounds("40 of 40", () -> call.applyAsInt(most, 40));
            LiftScheduler undone = Check.undone("call 0 1; finish;");
            Check.outOfBounds("one who is undone", () -> call.applyAsInt(undone, 0));
        });
    }

    private static void noSuchFloor(String what, ToIntBiFunction<LiftScheduler, Integer> call) {
        Check.holds(what + ": IndexOutOfBoundsException", () -> {
            for (int floors : new int[] {2, 10, 20}) {
                LiftScheduler lift = Check.loaded("lift " + floors + " 4 sweep; call 0 1; call 1 0;");
                call.applyAsInt(lift, 0);
                call.applyAsInt(lift, floors - 1);
                Check.outOfBounds("floor " + floors, () -> call.applyAsInt(lift, floors));
                for (int wrong : NO_NUMBERS) {
                    Check.outOfBounds("floor " + wrong, () -> call.applyAsInt(lift, wrong));
                }
            }
            LiftScheduler smaller = Check.loaded("lift 20 4 sweep; call 19 0;");
            Check.type(smaller, "lift 3 4 sweep;");
            smaller.load();
            Check.outOfBounds("a floor of the building before", () -> call.applyAsInt(smaller, 3));
        });
    }

    // ---- the terms ----

    private static void atMost40() {
        LiftScheduler lift = new LiftScheduler();
        for (int i = 0; i < 40; i++) {
            Check.same("number", lift.addPassenger(0, 1, 0), i);
        }
        Check.wrongState("the 41st", () -> lift.addPassenger(0, 1, 0));
        lift.runToEnd();
        Check.wrongState("the 41st when all are done", () -> lift.addPassenger(0, 1, 999));
        lift.undo();
        lift.undo();
        Check.same("the 40th again", lift.addPassenger(3, 2, 1), 39);
    }

    private static void numbered() {
        LiftScheduler lift = Check.loaded(HEAD + "call 5 1 at 90; call 4 1 at 80; call 3 1;");
        Check.same("the first", lift.originOf(0), 5);
        Check.same("the second", lift.originOf(1), 4);
        Check.same("the third", lift.originOf(2), 3);
    }

    private static void absentUntilArrival() {
        LiftScheduler lift = Check.loaded(ONE);
        Check.same("at 0", lift.statusOf(0), ABSENT);
        lift.run(2);
        Check.same("at 2", lift.statusOf(0), ABSENT);
        lift.run(1);
        Check.same("at 3", lift.statusOf(0), WAITING);
        Check.same("at 0, arrived at 0", Check.loaded(HEAD + "call 0 1;").statusOf(0), WAITING);
        LiftScheduler last = Check.loaded(HEAD + "call 0 1 at 999; run 998;");
        Check.same("at 998, arriving at 999", last.statusOf(0), ABSENT);
        last.run(1);
        Check.same("at 999, arrived at 999", last.statusOf(0), WAITING);
    }

    private static void waitingUntilBoarding() {
        LiftScheduler lift = Check.loaded(ONE + "run 5;");
        Check.same("before the door tick", lift.statusOf(0), WAITING);
        lift.run(1);
        Check.same("after the door tick", lift.statusOf(0), RIDING);
    }

    private static void ridingUntilLeaving() {
        LiftScheduler lift = Check.loaded(ONE + "run 10;");
        Check.same("at the destination", lift.floor(), 6);
        Check.same("before the door tick", lift.statusOf(0), RIDING);
        lift.run(1);
        Check.same("after the door tick", lift.statusOf(0), DONE);
    }

    private static void doneAfterwards() {
        LiftScheduler lift = Check.loaded(ONE + "run 999;");
        Check.same("at 999", lift.statusOf(0), DONE);
    }

    private static void arrivalTimes() {
        LiftScheduler lift = new LiftScheduler();
        lift.addPassenger(0, 1, 0);
        lift.addPassenger(0, 1, 999);
        Check.same("0", lift.arrivalOf(0), 0);
        Check.same("999", lift.arrivalOf(1), 999);
        Check.wrongArgument("-1", () -> lift.addPassenger(0, 1, -1));
        Check.wrongArgument("1000", () -> lift.addPassenger(0, 1, 1000));
    }

    private static void smallerArrivalFirst() {
        LiftScheduler lift = Check.loaded(HEAD + "call 9 0 at 2; call 9 0 at 1; call 9 0; run 3;");
        Check.same("first", lift.queueAt(9, 0), 2);
        Check.same("second", lift.queueAt(9, 1), 1);
        Check.same("third", lift.queueAt(9, 2), 0);
        // One who is added late, but arrives before one who was added early.
        lift = Check.loaded(HEAD + "call 9 0 at 5; run 2; call 9 0 at 4; call 9 0; run 3;");
        Check.same("the last one of all", lift.queueAt(9, 2), 0);
        Check.same("the first one of all", lift.queueAt(9, 0), 2);
    }

    private static void lowerNumberFirst() {
        LiftScheduler lift = Check.loaded(HEAD + "call 9 0 at 1; call 9 0; call 9 0 at 1; call 9 0; run 1;");
        Check.same("first", lift.queueAt(9, 0), 1);
        Check.same("second", lift.queueAt(9, 1), 3);
        Check.same("third", lift.queueAt(9, 2), 0);
        Check.same("fourth", lift.queueAt(9, 3), 2);
        Check.same("first of all", lift.firstWaiting(), 1);
    }

    // ---- promises 21 to 31 ----

    private static void leastAndMostPassengers() {
        Check.same("nobody", new LiftScheduler().passengerCount(), 0);
        Check.same("one", Check.loaded(ONE).passengerCount(), 1);
        Check.same("40", Check.loaded(HEAD + "call 0 1;".repeat(40)).passengerCount(), 40);
        Check.same("undone", Check.undone("call 0 1;").passengerCount(), 0);
    }

    private static void passengersOfEachStatus() {
        LiftScheduler lift = Check.loaded(HEAD + "call 0 1; call 1 9; call 5 6; call 5 6 at 99;");
        for (int time = 0; time < 100; time += 3) {
            Check.same("at " + time, lift.passengerCount(), 4);
            lift.run(3);
        }
    }

    private static void outermostFloors() {
        LiftScheduler lift = Check.loaded("lift 20 4 sweep; call 0 19; call 19 0;");
        Check.same("origin 0", lift.originOf(0), 0);
        Check.same("origin 19", lift.originOf(1), 19);
        Check.same("destination 19", lift.destinationOf(0), 19);
        Check.same("destination 0", lift.destinationOf(1), 0);
    }

    private static void lastOf40() {
        LiftScheduler lift = Check.loaded(HEAD + "call 0 1;".repeat(39) + "call 8 7 at 998;");
        Check.same("origin", lift.originOf(39), 8);
        Check.same("destination", lift.destinationOf(39), 7);
        Check.same("arrival", lift.arrivalOf(39), 998);
        Check.same("status", lift.statusOf(39), ABSENT);
    }

    private static void notBoarded() {
        LiftScheduler lift = Check.loaded(ONE);
        Check.same("absent", lift.boardedAt(0), NONE);
        lift.run(5);
        Check.same("waiting", lift.boardedAt(0), NONE);
        lift.run(1);
        Check.same("riding", lift.boardedAt(0), 5);
        lift.run(5);
        Check.same("done", lift.boardedAt(0), 5);
    }

    private static void boardedAtOnce() {
        Check.same("boarded", Check.loaded(HEAD + "call 0 1; run 1;").boardedAt(0), 0);
    }

    private static void notLeft() {
        LiftScheduler lift = Check.loaded(ONE);
        Check.same("absent", lift.leftAt(0), NONE);
        lift.run(5);
        Check.same("waiting", lift.leftAt(0), NONE);
        lift.run(5);
        Check.same("riding", lift.leftAt(0), NONE);
        lift.run(1);
        Check.same("done", lift.leftAt(0), 10);
    }

    private static void noWait() {
        LiftScheduler lift = Check.loaded(ONE);
        Check.same("absent", lift.waitOf(0), NONE);
        lift.run(5);
        Check.same("waiting", lift.waitOf(0), NONE);
        lift.run(1);
        Check.same("riding", lift.waitOf(0), 2);
        lift.run(5);
        Check.same("done", lift.waitOf(0), 2);
    }

    private static void waitOfNothing() {
        Check.same("at 0", Check.loaded(HEAD + "call 0 1; run 1;").waitOf(0), 0);
        Check.same("at 9", Check.loaded(HEAD + "call 0 1 at 9; run 10;").waitOf(0), 0);
    }

    private static void noRide() {
        LiftScheduler lift = Check.loaded(ONE);
        Check.same("absent", lift.rideOf(0), NONE);
        lift.run(5);
        Check.same("waiting", lift.rideOf(0), NONE);
        lift.run(5);
        Check.same("riding", lift.rideOf(0), NONE);
        lift.run(1);
        Check.same("done", lift.rideOf(0), 5);
    }

    private static void shortestRide() {
        Check.same("up one floor", Check.loaded(HEAD + "call 0 1; finish;").rideOf(0), 2);
        Check.same("down one floor", Check.loaded(HEAD + "call 1 0; finish;").rideOf(0), 2);
    }

    private static void noDetour() {
        LiftScheduler lift = Check.loaded(ONE);
        Check.same("absent", lift.detourOf(0), NONE);
        lift.run(5);
        Check.same("waiting", lift.detourOf(0), NONE);
        lift.run(5);
        Check.same("riding", lift.detourOf(0), NONE);
        lift.run(1);
        Check.same("done", lift.detourOf(0), 0);
    }

    private static void directRide() {
        LiftScheduler lift = Check.loaded("lift 20 1 sweep; call 0 19; call 19 0; call 3 4; call 4 3; finish;");
        for (int i = 0; i < 4; i++) {
            Check.same("passenger " + i, lift.detourOf(i), 0);
        }
    }

    private static void detour() {
        // The doors open once on the way, at floor 3.
        Check.same("by one tick", Check.loaded(HEAD + "call 0 5; call 3 9; finish;").detourOf(0), 1);
        // First up to floor 9, with the doors open there, then down to floor 1.
        LiftScheduler lift = Check.loaded(HEAD + "call 2 1; call 2 9; finish;");
        Check.same("ride", lift.rideOf(0), 17);
        Check.same("by the way up and back", lift.detourOf(0), 15);
    }

    private static void eachStatusCounted() {
        LiftScheduler lift = Check.loaded(HEAD + "call 0 1; call 1 9; call 0 8; call 5 6; call 5 6 at 99; run 3;");
        Check.same("absent", lift.countStatus(ABSENT), 1);
        Check.same("waiting", lift.countStatus(WAITING), 1);
        Check.same("riding", lift.countStatus(RIDING), 2);
        Check.same("done", lift.countStatus(DONE), 1);
    }

    private static void leastAndMostOfStatus() {
        LiftScheduler lift = new LiftScheduler();
        for (int status = ABSENT; status <= DONE; status++) {
            Check.same("nobody", lift.countStatus(status), 0);
        }
        Check.play(lift, "call 0 1 at 5;".repeat(35));
        Check.play(lift, "call 0 1 at 5;".repeat(5));
        Check.same("all are absent", lift.countStatus(ABSENT), 40);
        lift.run(5);
        Check.same("nobody is absent", lift.countStatus(ABSENT), 0);
        Check.same("all are waiting", lift.countStatus(WAITING), 40);
        lift.setCapacity(8);
        lift.run(1);
        Check.same("8 are riding", lift.countStatus(RIDING), 8);
        Check.same("the others are waiting", lift.countStatus(WAITING), 32);
        lift.runToEnd();
        Check.same("all are done", lift.countStatus(DONE), 40);
        Check.same("nobody is riding", lift.countStatus(RIDING), 0);
    }

    private static void noSuchStatus() {
        LiftScheduler lift = Check.loaded(ONE);
        for (int wrong : new int[] {-1, 4, Integer.MIN_VALUE, Integer.MAX_VALUE}) {
            Check.wrongArgument("countStatus " + wrong, () -> lift.countStatus(wrong));
        }
    }

    // ---- promises 32 to 35 ----

    private static void waitingAlone() {
        LiftScheduler lift = Check.loaded(ONE + "run 2;");
        Check.same("absent", lift.waitingAt(2), 0);
        lift.run(3);
        Check.same("waiting", lift.waitingAt(2), 1);
        Check.same("not at the destination", lift.waitingAt(6), 0);
        lift.run(1);
        Check.same("riding", lift.waitingAt(2), 0);
        lift.run(5);
        Check.same("done", lift.waitingAt(2) + lift.waitingAt(6), 0);
    }

    private static void leastAndMostWaiting() {
        LiftScheduler lift = Check.loaded(HEAD + "call 9 0;".repeat(40));
        Check.same("40 at 9", lift.waitingAt(9), 40);
        Check.same("nobody at 8", lift.waitingAt(8), 0);
        Check.same("nobody at 0", lift.waitingAt(0), 0);
    }

    private static void positions() {
        LiftScheduler lift = Check.loaded(HEAD + "call 9 0;".repeat(40));
        for (int i = 0; i < 40; i++) {
            Check.same("position " + i, lift.queueAt(9, i), i);
        }
    }

    private static void noSuchPosition() {
        LiftScheduler lift = Check.loaded(HEAD + "call 9 0;".repeat(40));
        for (int wrong : new int[] {-1, 40, 41, Integer.MIN_VALUE, Integer.MAX_VALUE}) {
            Check.same("position " + wrong + " of 40", lift.queueAt(9, wrong), NONE);
            Check.same("position " + wrong + " of 0", lift.queueAt(8, wrong), NONE);
        }
        Check.same("position 0 of 0", lift.queueAt(8, 0), NONE);
        Check.same("position 0 of nobody", new LiftScheduler().queueAt(0, 0), NONE);
        LiftScheduler two = Check.loaded(HEAD + "call 3 0; call 3 1;");
        Check.same("position 1 of 2", two.queueAt(3, 1), 1);
        Check.same("position 2 of 2", two.queueAt(3, 2), NONE);
    }

    private static void queueOfFloorAlone() {
        LiftScheduler lift = Check.loaded("lift 10 1 sweep; call 0 9; call 0 8; call 5 1; call 0 7 at 50; run 1;");
        Check.same("the rider is not in the queue", lift.queueAt(0, 0), 1);
        Check.same("the absent one is not in it", lift.queueAt(0, 1), NONE);
        Check.same("the queue of another floor", lift.queueAt(5, 0), 2);
        Check.same("the done one is not in it", Check.loaded(HEAD + "call 0 1; finish;").queueAt(0, 0), NONE);
    }

    private static void firstWaiting() {
        LiftScheduler lift = Check.loaded(HEAD + "call 9 0 at 3; call 8 0 at 2; call 7 0 at 2; run 2;");
        Check.same("of two at 2 the lower number", lift.firstWaiting(), 1);
        lift.run(1);
        Check.same("still the earlier one", lift.firstWaiting(), 1);
        LiftScheduler zero = Check.loaded(HEAD + "call 9 0; call 0 1 at 1;");
        Check.same("number 0", zero.firstWaiting(), 0);
    }

    private static void nobodyWaiting() {
        Check.same("nobody", new LiftScheduler().firstWaiting(), NONE);
        Check.same("undone", Check.undone("call 5 6;").firstWaiting(), NONE);
        LiftScheduler lift = Check.loaded(ONE + "run 2;");
        Check.same("absent", lift.firstWaiting(), NONE);
        lift.run(4);
        Check.same("riding", lift.firstWaiting(), NONE);
        lift.run(5);
        Check.same("done", lift.firstWaiting(), NONE);
    }

    private static void ridingAlone() {
        LiftScheduler lift = Check.loaded(ONE + "run 2;");
        Check.same("absent", lift.ridingTo(6), 0);
        lift.run(3);
        Check.same("waiting", lift.ridingTo(6), 0);
        lift.run(1);
        Check.same("riding", lift.ridingTo(6), 1);
        Check.same("not to the origin", lift.ridingTo(2), 0);
        lift.run(5);
        Check.same("done", lift.ridingTo(6), 0);
        Check.same("undone", Check.undone("call 0 6; run 1;").ridingTo(6), 0);
    }

    private static void leastAndMostRiding() {
        LiftScheduler lift = Check.loaded("lift 10 8 sweep;" + "call 0 9;".repeat(40));
        Check.same("nobody yet", lift.ridingTo(9), 0);
        lift.run(1);
        Check.same("8 to 9", lift.ridingTo(9), 8);
        Check.same("nobody to 8", lift.ridingTo(8), 0);
        Check.same("nobody to 0", lift.ridingTo(0), 0);
    }

    // ---- promises 36 to 38 ----

    private static void lowestBusiest() {
        Check.same("of two", Check.loaded(HEAD + "call 7 0; call 3 0;").busiestOrigin(), 3);
        Check.same("of two with two each",
                Check.loaded(HEAD + "call 7 0; call 3 0; call 3 1; call 7 1; call 1 0;").busiestOrigin(), 3);
        Check.same("one more", Check.loaded(HEAD + "call 7 0; call 3 0; call 7 1;").busiestOrigin(), 7);
    }

    private static void busiestOfEachStatus() {
        // Two of the status from floor 0, one of another status from floor 5.
        Check.same("absent", Check.loaded(HEAD + "call 0 9 at 9; call 0 9 at 9; call 5 9;").busiestOrigin(), 0);
        String two = HEAD + "call 0 9; call 0 9;";
        Check.same("waiting", Check.loaded(two + "call 5 9 at 9;").busiestOrigin(), 0);
        Check.same("riding", Check.loaded(two + "call 5 9 at 9; run 1;").busiestOrigin(), 0);
        Check.same("done", Check.loaded(two + "finish; call 5 9;").busiestOrigin(), 0);
    }

    private static void noBusiest() {
        Check.same("new", new LiftScheduler().busiestOrigin(), NONE);
        Check.same("undone", Check.undone("call 5 6;").busiestOrigin(), NONE);
    }

    private static void outermostBusiest() {
        Check.same("the lowest", Check.loaded("lift 20 4 sweep; call 0 19;").busiestOrigin(), 0);
        Check.same("the highest", Check.loaded("lift 20 4 sweep; call 19 0;").busiestOrigin(), 19);
    }

    private static void bothFloors() {
        LiftScheduler lift = Check.loaded(HEAD + "call 3 7; call 3 8; call 2 7; call 7 3;");
        Check.same("3 to 7", lift.passengersBetween(3, 7), 1);
        Check.same("7 to 3", lift.passengersBetween(7, 3), 1);
        Check.same("8 to 3", lift.passengersBetween(8, 3), 0);
        Check.same("3 to 3", lift.passengersBetween(3, 3), 0);
    }

    private static void betweenOfEachStatus() {
        LiftScheduler lift = Check.loaded("lift 2 1 sweep; call 0 1; call 0 1 at 4; call 0 1 at 5; call 0 1 at 99;"
                + "run 6;");
        Check.same("done", lift.countStatus(DONE), 1);
        Check.same("riding", lift.countStatus(RIDING), 1);
        Check.same("waiting", lift.countStatus(WAITING), 1);
        Check.same("all four", lift.passengersBetween(0, 1), 4);
    }

    private static void leastAndMostBetween() {
        LiftScheduler lift = Check.loaded(HEAD + "call 9 0;".repeat(40));
        Check.same("9 to 0", lift.passengersBetween(9, 0), 40);
        Check.same("0 to 9", lift.passengersBetween(0, 9), 0);
        Check.same("nobody", new LiftScheduler().passengersBetween(9, 0), 0);
    }

    private static void smallestArrival() {
        Check.same("of three", Check.loaded(HEAD + "call 1 2 at 9; call 1 2 at 7; call 1 2 at 8;").nextArrival(), 7);
        Check.same("of two at once", Check.loaded(HEAD + "call 1 2 at 7; call 1 2 at 7;").nextArrival(), 7);
    }

    private static void absentAlone() {
        LiftScheduler lift = Check.loaded(HEAD + "call 1 2; call 1 2 at 4; call 1 2 at 5;");
        Check.same("not one who waits", lift.nextArrival(), 4);
        lift.run(3);
        Check.same("one tick before", lift.nextArrival(), 4);
        lift.run(1);
        Check.same("not one who has just arrived", lift.nextArrival(), 5);
    }

    private static void noArrival() {
        Check.same("nobody", new LiftScheduler().nextArrival(), NONE);
        Check.same("undone", Check.undone("call 5 6 at 9;").nextArrival(), NONE);
        Check.same("waiting", Check.loaded(HEAD + "call 1 2;").nextArrival(), NONE);
        Check.same("riding", Check.loaded(HEAD + "call 0 2; run 1;").nextArrival(), NONE);
        Check.same("done", Check.loaded(HEAD + "call 0 2; finish;").nextArrival(), NONE);
    }

    private static void lastArrival() {
        LiftScheduler lift = Check.loaded(HEAD + "call 1 2 at 999; run 998;");
        Check.same("at 998", lift.nextArrival(), 999);
        lift.run(1);
        Check.same("at 999", lift.nextArrival(), NONE);
        Check.same("1 at 0", Check.loaded(HEAD + "call 1 2 at 1;").nextArrival(), 1);
    }
}
