/**
 * A discrete simulation of one lift: passengers call it at given times, a scheduling policy
 * chooses where it moves, and waiting times, riding times and the way of the lift are measured
 * and forecast.
 */
public final class LiftScheduler {
    public static final int NONE = -1;
    public static final int ABSENT = 0;
    public static final int WAITING = 1;
    public static final int RIDING = 2;
    public static final int DONE = 3;
    public static final int FIRST_COME = 0;
    public static final int NEAREST = 1;
    public static final int SWEEP = 2;

    private static final int LEAST_FLOORS = 2;
    private static final int MOST_FLOORS = 20;
    private static final int MOST_CAPACITY = 8;
    private static final int MOST_PASSENGERS = 40;
    private static final int LAST_TIME = 999;
    private static final int MOST_BYTES = 500;
    private static final int BYTES_OF_APPEND = 20;
    private static final int MOST_CHANGES = 8;
    private static final int SLOT_COUNT = 2;
    // The longest output is a building: 20 numbers of two digits, 19 commas, asterisk and riders.
    private static final int MOST_OUTPUT = 64;
    // No forecast needs 4,000 ticks: 999 until all have arrived, then 80 door ticks, each after
    // at most 19 moves. The bound only lets the loop's end be seen.
    private static final int FORECAST_BOUND = 1_000_000;

    private final Simulation now = new Simulation();
    // Forecasts, texts and scripts run here, so that the state stays as it is when they fail.
    private final Simulation trial = new Simulation();
    // All copies of the state are made once and written over, since what a run makes is counted.
    private final Simulation[] past = new Simulation[MOST_CHANGES];
    private int nextPast = 0;
    private int changes = 0;
    private final Simulation[] slots = new Simulation[SLOT_COUNT];
    private final boolean[] slotFilled = new boolean[SLOT_COUNT];
    private final byte[] input = new byte[MOST_BYTES];
    private int inputLength = 0;
    private final Script script = new Script();
    private final byte[] output = new byte[MOST_OUTPUT];
    private int outputLength = 0;

    public LiftScheduler() {
        for (int i = 0; i < MOST_CHANGES; i++) {
            past[i] = new Simulation();
        }
        for (int i = 0; i < SLOT_COUNT; i++) {
            slots[i] = new Simulation();
        }
    }

    // ---- the input buffer, texts and scripts ----

    public int append(int a, int b, int c, int d, int e) {
        if (inputLength + BYTES_OF_APPEND > MOST_BYTES) {
            return NONE;
        }
        appendFour(a);
        appendFour(b);
        appendFour(c);
        appendFour(d);
        appendFour(e);
        return inputLength;
    }

    private void appendFour(int bytes) {
        for (int shift = 24; shift >= 0; shift -= 8) {
            if (inputLength < MOST_BYTES) {
                input[inputLength] = (byte) (bytes >>> shift);
                inputLength++;
            }
        }
    }

    public boolean truncate(int length) {
        if (length < 0 || length > inputLength) {
            return false;
        }
        inputLength = length;
        return true;
    }

    public int load() throws IllegalArgumentException {
        script.readTokens(input, inputLength);
        inputLength = 0;
        if (!script.performHeader(trial) || !script.performCommands(trial)) {
            throw new IllegalArgumentException("the text has a parse error");
        }
        now.copyFrom(trial);
        changes = 0;
        for (int i = 0; i < SLOT_COUNT; i++) {
            slotFilled[i] = false;
        }
        return now.count;
    }

    public int play() throws IllegalArgumentException {
        script.readTokens(input, inputLength);
        inputLength = 0;
        trial.copyFrom(now);
        if (!script.performCommands(trial)) {
            throw new IllegalArgumentException("the script has a parse error");
        }
        rememberState();
        now.copyFrom(trial);
        return script.executed;
    }

    public int parseError() {
        return script.errorCode;
    }

    public int parseErrorPosition() {
        return script.errorPosition;
    }

    // ---- the building and the lift ----

    public int floorCount() {
        return now.floors;
    }

    public int capacity() {
        return now.capacity;
    }

    public int policy() {
        return now.policy;
    }

    public int time() {
        return now.time;
    }

    public int floor() {
        return now.floor;
    }

    public boolean isUpward() {
        return now.upward;
    }

    public boolean isFull() {
        return now.riding == now.capacity;
    }

    public int stopMask() {
        return now.findStops();
    }

    public int targetBy(int policy) throws IllegalArgumentException {
        requirePolicy(policy);
        return now.findTarget(policy);
    }

    public int distance() {
        return now.distance;
    }

    public int doorTicks() {
        return now.doorTicks;
    }

    public int idleTicks() {
        return now.idleTicks;
    }

    public int reversals() {
        return now.reversals;
    }

    // ---- one passenger ----

    public int passengerCount() {
        return now.count;
    }

    public int statusOf(int passenger) throws IndexOutOfBoundsException {
        requirePassenger(passenger);
        return now.findStatus(passenger);
    }

    public int originOf(int passenger) throws IndexOutOfBoundsException {
        requirePassenger(passenger);
        return now.origin[passenger];
    }

    public int destinationOf(int passenger) throws IndexOutOfBoundsException {
        requirePassenger(passenger);
        return now.destination[passenger];
    }

    public int arrivalOf(int passenger) throws IndexOutOfBoundsException {
        requirePassenger(passenger);
        return now.arrival[passenger];
    }

    public int boardedAt(int passenger) throws IndexOutOfBoundsException {
        requirePassenger(passenger);
        return now.boarded[passenger];
    }

    public int leftAt(int passenger) throws IndexOutOfBoundsException {
        requirePassenger(passenger);
        return now.left[passenger];
    }

    public int waitOf(int passenger) throws IndexOutOfBoundsException {
        requirePassenger(passenger);
        return now.findWait(passenger);
    }

    public int rideOf(int passenger) throws IndexOutOfBoundsException {
        requirePassenger(passenger);
        return now.findRide(passenger);
    }

    public int detourOf(int passenger) throws IndexOutOfBoundsException {
        requirePassenger(passenger);
        int ride = now.findRide(passenger);
        if (ride == NONE) {
            return NONE;
        }
        return ride - 1 - Math.abs(now.origin[passenger] - now.destination[passenger]);
    }

    // ---- groups of passengers ----

    public int countStatus(int status) throws IllegalArgumentException {
        if (status < ABSENT || status > DONE) {
            throw new IllegalArgumentException("no such status");
        }
        return now.countWith(status);
    }

    public int waitingAt(int floor) throws IndexOutOfBoundsException {
        requireFloor(floor);
        return now.countWaiting(floor);
    }

    public int queueAt(int floor, int position) throws IndexOutOfBoundsException {
        requireFloor(floor);
        int ahead = 0;
        for (int i = 0; i < now.count; i++) {
            int passenger = now.queue[i];
            if (now.origin[passenger] == floor && now.findStatus(passenger) == WAITING) {
                if (ahead == position) {
                    return passenger;
                }
                ahead++;
            }
        }
        return NONE;
    }

    public int firstWaiting() {
        return now.findFirstWaiting();
    }

    public int ridingTo(int floor) throws IndexOutOfBoundsException {
        requireFloor(floor);
        int riders = 0;
        for (int i = 0; i < now.count; i++) {
            if (now.destination[i] == floor && now.findStatus(i) == RIDING) {
                riders++;
            }
        }
        return riders;
    }

    public int busiestOrigin() {
        int busiest = NONE;
        int most = 0;
        for (int floor = 0; floor < now.floors; floor++) {
            int starting = 0;
            for (int i = 0; i < now.count; i++) {
                if (now.origin[i] == floor) {
                    starting++;
                }
            }
            if (starting > most) {
                most = starting;
                busiest = floor;
            }
        }
        return busiest;
    }

    public int passengersBetween(int origin, int destination) throws IndexOutOfBoundsException {
        requireFloor(origin);
        requireFloor(destination);
        int passengers = 0;
        for (int i = 0; i < now.count; i++) {
            if (now.origin[i] == origin && now.destination[i] == destination) {
                passengers++;
            }
        }
        return passengers;
    }

    public int nextArrival() {
        int next = NONE;
        for (int i = 0; i < now.count; i++) {
            int arrival = now.arrival[i];
            if (arrival > now.time && (next == NONE || arrival < next)) {
                next = arrival;
            }
        }
        return next;
    }

    // ---- measured times ----

    public int totalRide() {
        int total = 0;
        for (int i = 0; i < now.count; i++) {
            total += Math.max(now.findRide(i), 0);
        }
        return total;
    }

    public int longestRide() {
        int longest = 0;
        for (int i = 0; i < now.count; i++) {
            longest = Math.max(longest, now.findRide(i));
        }
        return longest;
    }

    public int lastDone() {
        int last = NONE;
        int latest = NONE;
        for (int i = 0; i < now.count; i++) {
            if (now.left[i] > latest) {
                latest = now.left[i];
                last = i;
            }
        }
        return last;
    }

    public float movingShare() {
        if (now.time == 0) {
            return 0.0f;
        }
        return (float) now.distance / (float) now.time;
    }

    public int totalWait() {
        return now.sumWaits();
    }

    public int longestWait() {
        return now.findLongestWait();
    }

    public double meanWait() {
        int haveBoarded = now.riding + now.done;
        if (haveBoarded == 0) {
            return 0.0;
        }
        return (double) now.sumWaits() / (double) haveBoarded;
    }

    public boolean isFinished() {
        return now.isOver();
    }

    // ---- forecasts ----

    public int ticksToFinish() {
        return forecast(now.policy, now.capacity);
    }

    public int ticksWithPolicy(int policy) throws IllegalArgumentException {
        requirePolicy(policy);
        return forecast(policy, now.capacity);
    }

    public int waitWithPolicy(int policy) throws IllegalArgumentException {
        requirePolicy(policy);
        return forecastWaits(policy);
    }

    public int longestWaitWithPolicy(int policy) throws IllegalArgumentException {
        requirePolicy(policy);
        forecast(policy, now.capacity);
        return trial.findLongestWait();
    }

    public int bestPolicy() {
        int best = FIRST_COME;
        int least = forecastWaits(FIRST_COME);
        for (int policy = NEAREST; policy <= SWEEP; policy++) {
            int waits = forecastWaits(policy);
            if (waits < least) {
                least = waits;
                best = policy;
            }
        }
        return best;
    }

    public int ticksWithCapacity(int capacity)
            throws IllegalArgumentException, IllegalStateException {
        requireCapacity(capacity);
        return forecast(now.policy, capacity);
    }

    public int expectedAt(int passenger) throws IndexOutOfBoundsException {
        requirePassenger(passenger);
        forecast(now.policy, now.capacity);
        return trial.left[passenger];
    }

    /** Leaves the state at the end in trial. */
    private int forecast(int policy, int capacity) {
        trial.copyFrom(now);
        trial.policy = policy;
        trial.capacity = capacity;
        return trial.tickToEnd(FORECAST_BOUND);
    }

    private int forecastWaits(int policy) {
        forecast(policy, now.capacity);
        return trial.sumWaits();
    }

    // ---- changes ----

    public int addPassenger(int origin, int destination, int arrival)
            throws IndexOutOfBoundsException, IllegalArgumentException, IllegalStateException {
        requireFloor(origin);
        requireFloor(destination);
        if (destination == origin) {
            throw new IllegalArgumentException("the destination is the origin");
        }
        if (arrival < now.time || arrival > LAST_TIME) {
            throw new IllegalArgumentException("the arrival is out of range");
        }
        if (now.count >= MOST_PASSENGERS) {
            throw new IllegalStateException("there are 40 passengers");
        }
        rememberState();
        now.addArrival(origin, destination, arrival);
        return now.count - 1;
    }

    public int run(int ticks) throws IllegalArgumentException, IllegalStateException {
        if (ticks < 1 || ticks > LAST_TIME) {
            throw new IllegalArgumentException("the ticks are out of range");
        }
        if (now.time + ticks > LAST_TIME) {
            throw new IllegalStateException("the time would be greater than 999");
        }
        rememberState();
        for (int i = 0; i < ticks; i++) {
            now.tick();
        }
        return now.floor;
    }

    public int runToEnd() {
        rememberState();
        return now.tickToEnd(LAST_TIME - now.time);
    }

    public int setPolicy(int policy) throws IllegalArgumentException {
        requirePolicy(policy);
        rememberState();
        int previous = now.policy;
        now.policy = policy;
        return previous;
    }

    public int setCapacity(int capacity) throws IllegalArgumentException, IllegalStateException {
        requireCapacity(capacity);
        rememberState();
        int previous = now.capacity;
        now.capacity = capacity;
        return previous;
    }

    public int undo() throws IllegalStateException {
        if (changes == 0) {
            throw new IllegalStateException("there is no change to undo");
        }
        nextPast = (nextPast + MOST_CHANGES - 1) % MOST_CHANGES;
        changes--;
        now.copyFrom(past[nextPast]);
        return changes;
    }

    public int undoDepth() {
        return changes;
    }

    /** Called before a change, once it is sure that the change throws nothing. */
    private void rememberState() {
        past[nextPast].copyFrom(now);
        nextPast = (nextPast + 1) % MOST_CHANGES;
        changes = Math.min(changes + 1, MOST_CHANGES);
    }

    // ---- slots ----

    public boolean save(int slot) throws IndexOutOfBoundsException {
        requireSlot(slot);
        boolean wasEmpty = !slotFilled[slot];
        slots[slot].copyFrom(now);
        slotFilled[slot] = true;
        return wasEmpty;
    }

    public int restore(int slot) throws IndexOutOfBoundsException, IllegalStateException {
        requireSlot(slot);
        if (!slotFilled[slot]) {
            throw new IllegalStateException("the slot is empty");
        }
        now.copyFrom(slots[slot]);
        changes = 0;
        return now.time;
    }

    // ---- the output text ----

    public int writeStatus() {
        outputLength = 0;
        for (int i = 0; i < now.count; i++) {
            writeByte(letterOf(now.findStatus(i)));
        }
        return outputLength;
    }

    public int writeBuilding() {
        outputLength = 0;
        for (int floor = 0; floor < now.floors; floor++) {
            if (floor > 0) {
                writeByte(',');
            }
            writeNumber(now.countWaiting(floor));
            if (floor == now.floor) {
                writeByte('*');
                writeNumber(now.riding);
            }
        }
        return outputLength;
    }

    public int outputByte(int index) {
        if (index < 0 || index >= outputLength) {
            return NONE;
        }
        return output[index];
    }

    private static int letterOf(int status) {
        switch (status) {
            case WAITING:
                return 'w';
            case RIDING:
                return 'r';
            case DONE:
                return 'd';
            default:
                return '.';
        }
    }

    /** Writes a number of passengers, which has at most two digits. */
    private void writeNumber(int number) {
        if (number >= 10) {
            writeByte('0' + number / 10);
        }
        writeByte('0' + number % 10);
    }

    private void writeByte(int value) {
        if (outputLength < MOST_OUTPUT) {
            output[outputLength] = (byte) value;
            outputLength++;
        }
    }

    // ---- what the arguments must be ----

    private void requirePassenger(int passenger) {
        if (passenger < 0 || passenger >= now.count) {
            throw new IndexOutOfBoundsException("no such passenger");
        }
    }

    private void requireFloor(int floor) {
        if (floor < 0 || floor >= now.floors) {
            throw new IndexOutOfBoundsException("no such floor");
        }
    }

    private void requirePolicy(int policy) {
        if (policy < FIRST_COME || policy > SWEEP) {
            throw new IllegalArgumentException("no such policy");
        }
    }

    private void requireCapacity(int capacity) {
        if (capacity < 1 || capacity > MOST_CAPACITY) {
            throw new IllegalArgumentException("the capacity is out of range");
        }
        if (now.riding > capacity) {
            throw new IllegalStateException("more passengers are riding");
        }
    }

    private void requireSlot(int slot) {
        if (slot < 0 || slot >= SLOT_COUNT) {
            throw new IndexOutOfBoundsException("no such slot");
        }
    }

    /** The whole state: the building, the policy, the passengers, the lift, time and counters. */
    private static final class Simulation {
        int floors;
        int capacity;
        int policy;
        int time;
        int floor;
        boolean upward;
        int distance;
        int doorTicks;
        int idleTicks;
        int reversals;
        int count;
        int riding;
        int done;
        // Row i belongs to passenger i; only the first count entries mean anything.
        final int[] origin = new int[MOST_PASSENGERS];
        final int[] destination = new int[MOST_PASSENGERS];
        final int[] arrival = new int[MOST_PASSENGERS];
        final int[] boarded = new int[MOST_PASSENGERS];
        final int[] left = new int[MOST_PASSENGERS];
        // The numbers of all passengers in queue order, so that no search has to sort.
        final int[] queue = new int[MOST_PASSENGERS];

        Simulation() {
            begin(10, 4, SWEEP);
        }

        void begin(int newFloors, int newCapacity, int newPolicy) {
            floors = newFloors;
            capacity = newCapacity;
            policy = newPolicy;
            time = 0;
            floor = 0;
            upward = true;
            distance = 0;
            doorTicks = 0;
            idleTicks = 0;
            reversals = 0;
            count = 0;
            riding = 0;
            done = 0;
        }

        void copyFrom(Simulation other) {
            floors = other.floors;
            capacity = other.capacity;
            policy = other.policy;
            time = other.time;
            floor = other.floor;
            upward = other.upward;
            distance = other.distance;
            doorTicks = other.doorTicks;
            idleTicks = other.idleTicks;
            reversals = other.reversals;
            count = other.count;
            riding = other.riding;
            done = other.done;
            System.arraycopy(other.origin, 0, origin, 0, count);
            System.arraycopy(other.destination, 0, destination, 0, count);
            System.arraycopy(other.arrival, 0, arrival, 0, count);
            System.arraycopy(other.boarded, 0, boarded, 0, count);
            System.arraycopy(other.left, 0, left, 0, count);
            System.arraycopy(other.queue, 0, queue, 0, count);
        }

        void addArrival(int from, int to, int at) {
            if (count >= MOST_PASSENGERS) {
                return;
            }
            origin[count] = from;
            destination[count] = to;
            arrival[count] = at;
            boarded[count] = NONE;
            left[count] = NONE;
            // The new number is the highest, so it stands behind all of the same arrival.
            int place = count;
            while (place > 0 && arrival[queue[place - 1]] > at) {
                queue[place] = queue[place - 1];
                place--;
            }
            queue[place] = count;
            count++;
        }

        int findStatus(int passenger) {
            if (left[passenger] != NONE) {
                return DONE;
            }
            if (boarded[passenger] != NONE) {
                return RIDING;
            }
            return arrival[passenger] <= time ? WAITING : ABSENT;
        }

        int findWait(int passenger) {
            return boarded[passenger] == NONE ? NONE : boarded[passenger] - arrival[passenger];
        }

        int findRide(int passenger) {
            return left[passenger] == NONE ? NONE : left[passenger] - boarded[passenger];
        }

        int countWith(int status) {
            int passengers = 0;
            for (int i = 0; i < count; i++) {
                if (findStatus(i) == status) {
                    passengers++;
                }
            }
            return passengers;
        }

        int countWaiting(int atFloor) {
            int passengers = 0;
            for (int i = 0; i < count; i++) {
                if (origin[i] == atFloor && findStatus(i) == WAITING) {
                    passengers++;
                }
            }
            return passengers;
        }

        int findFirstWaiting() {
            for (int i = 0; i < count; i++) {
                int passenger = queue[i];
                if (boarded[passenger] == NONE) {
                    // Whoever comes behind in queue order does not arrive earlier.
                    return arrival[passenger] <= time ? passenger : NONE;
                }
            }
            return NONE;
        }

        int sumWaits() {
            int total = 0;
            for (int i = 0; i < count; i++) {
                total += Math.max(findWait(i), 0);
            }
            return total;
        }

        int findLongestWait() {
            int longest = 0;
            for (int i = 0; i < count; i++) {
                longest = Math.max(longest, findWait(i));
            }
            return longest;
        }

        boolean isOver() {
            return done == count;
        }

        int findStops() {
            boolean hasRoom = riding < capacity;
            int stops = 0;
            for (int i = 0; i < count; i++) {
                if (left[i] != NONE) {
                    continue;
                }
                if (boarded[i] != NONE) {
                    stops |= 1 << destination[i];
                } else if (hasRoom && arrival[i] <= time) {
                    stops |= 1 << origin[i];
                }
            }
            return stops;
        }

        /** Answers the floor of the lift just if it is a stop, and NONE if there is no stop. */
        int findTarget(int byPolicy) {
            int stops = findStops();
            if (stops == 0) {
                return NONE;
            }
            if ((stops >> floor & 1) != 0) {
                return floor;
            }
            if (byPolicy == FIRST_COME) {
                int rider = findFirstRiding();
                int first = rider == NONE ? findFirstWaiting() : rider;
                if (first == NONE) {
                    return NONE;
                }
                return rider == NONE ? origin[first] : destination[first];
            }
            int below = findStopBelow(stops);
            int above = findStopAbove(stops);
            // With stops on one side only, NEAREST has no choice, and SWEEP goes on or turns.
            if (below == NONE) {
                return above;
            }
            if (above == NONE) {
                return below;
            }
            if (byPolicy == SWEEP) {
                return upward ? above : below;
            }
            return floor - below <= above - floor ? below : above;
        }

        private int findFirstRiding() {
            for (int i = 0; i < count; i++) {
                if (boarded[i] != NONE && left[i] == NONE) {
                    return i;
                }
            }
            return NONE;
        }

        private int findStopBelow(int stops) {
            for (int f = floor - 1; f >= 0; f--) {
                if ((stops >> f & 1) != 0) {
                    return f;
                }
            }
            return NONE;
        }

        private int findStopAbove(int stops) {
            for (int f = floor + 1; f < floors; f++) {
                if ((stops >> f & 1) != 0) {
                    return f;
                }
            }
            return NONE;
        }

        void tick() {
            int target = findTarget(policy);
            if (target == NONE) {
                idleTicks++;
            } else if (target == floor) {
                openDoors();
            } else {
                moveTowards(target);
            }
            time++;
        }

        /** Ticks until all passengers are DONE, but not more often than most; answers how often. */
        int tickToEnd(int most) {
            int ticks = 0;
            while (ticks < most && !isOver()) {
                tick();
                ticks++;
            }
            return ticks;
        }

        private void openDoors() {
            for (int i = 0; i < count; i++) {
                if (destination[i] == floor && boarded[i] != NONE && left[i] == NONE) {
                    left[i] = time;
                    riding--;
                    done++;
                }
            }
            for (int i = 0; i < count && riding < capacity; i++) {
                int passenger = queue[i];
                if (origin[passenger] == floor && boarded[passenger] == NONE
                        && arrival[passenger] <= time) {
                    boarded[passenger] = time;
                    riding++;
                }
            }
            doorTicks++;
        }

        private void moveTowards(int target) {
            boolean rises = target > floor;
            if (policy == SWEEP && rises != upward) {
                upward = rises;
                reversals++;
            }
            floor += rises ? 1 : -1;
            distance++;
        }
    }

    /** The kinds of tokens; a word that is none of these is allowed nowhere, so it is INVALID. */
    private enum Kind {
        LIFT("lift"),
        FIRST("first"),
        NEAREST("nearest"),
        SWEEP("sweep"),
        REPEAT("repeat"),
        CALL("call"),
        AT("at"),
        RUN("run"),
        FINISH("finish"),
        UNTIL("until"),
        REVERSE("reverse"),
        POLICY("policy"),
        CAPACITY("capacity"),
        EXPECT("expect"),
        DONE("done"),
        RIDING("riding"),
        WAITING("waiting"),
        FLOOR("floor"),
        DISTANCE("distance"),
        TIME("time"),
        SEMICOLON(";"),
        OPEN("("),
        CLOSE(")"),
        NUMBER(""),
        INVALID(""),
        END("");

        final String text;

        Kind(String text) {
            this.text = text;
        }

        boolean isCounter() {
            return this == DONE || this == RIDING || this == WAITING || this == FLOOR
                    || this == DISTANCE || this == TIME;
        }
    }

    /** Cuts a text or script into tokens and performs it on a simulation, up to a wrong token. */
    private static final class Script {
        private static final int WRONG_TOKEN = 1;
        private static final int WRONG_NUMBER = 2;
        private static final int TOO_MANY_PASSENGERS = 3;
        private static final int NOT_POSSIBLE = 4;
        private static final int NOT_AS_EXPECTED = 5;
        private static final int MOST_DIGITS = 3;
        // Stands for any number of too many digits: no range reaches it.
        private static final int TOO_GREAT = 1000;
        // Each byte may be a token, and END stands behind the last one.
        private static final int MOST_TOKENS = MOST_BYTES + 1;
        private static final Kind[] KINDS = Kind.values();

        private final Kind[] kinds = new Kind[MOST_TOKENS];
        private final int[] starts = new int[MOST_TOKENS];
        private final int[] values = new int[MOST_TOKENS];
        private int tokens = 0;
        // The index of the token that is read next; never behind END, which nothing takes.
        private int at = 0;
        private Simulation simulation;
        int executed = 0;
        int errorCode = 0;
        int errorPosition = NONE;

        void readTokens(byte[] bytes, int length) {
            tokens = 0;
            int next = 0;
            while (next < length) {
                int start = next;
                next++;
                if (isSpace(bytes[start])) {
                    continue;
                }
                while (next < length && belongTogether(bytes[start], bytes[next])) {
                    next++;
                }
                if (isDigit(bytes[start])) {
                    addToken(Kind.NUMBER, start, numberOf(bytes, start, next));
                } else {
                    addToken(kindOf(bytes, start, next), start, 0);
                }
            }
            addToken(Kind.END, length, 0);
            at = 0;
            executed = 0;
            errorCode = 0;
            errorPosition = NONE;
        }

        private void addToken(Kind kind, int start, int value) {
            if (tokens < MOST_TOKENS) {
                kinds[tokens] = kind;
                starts[tokens] = start;
                values[tokens] = value;
                tokens++;
            }
        }

        private static boolean isSpace(int value) {
            return value == ' ' || value == '\t' || value == '\n';
        }

        private static boolean isDigit(int value) {
            return value >= '0' && value <= '9';
        }

        private static boolean isLetter(int value) {
            return value >= 'a' && value <= 'z';
        }

        private static boolean belongTogether(int first, int second) {
            return isLetter(first) && isLetter(second) || isDigit(first) && isDigit(second);
        }

        private static int numberOf(byte[] bytes, int start, int end) {
            if (end - start > MOST_DIGITS) {
                return TOO_GREAT;
            }
            int value = 0;
            for (int i = start; i < end; i++) {
                value = value * 10 + bytes[i] - '0';
            }
            return value;
        }

        private static Kind kindOf(byte[] bytes, int start, int end) {
            for (Kind kind : KINDS) {
                if (isText(kind.text, bytes, start, end)) {
                    return kind;
                }
            }
            return Kind.INVALID;
        }

        private static boolean isText(String text, byte[] bytes, int start, int end) {
            if (text.length() != end - start) {
                return false;
            }
            for (int i = start; i < end; i++) {
                if (text.charAt(i - start) != bytes[i]) {
                    return false;
                }
            }
            return true;
        }

        /** Performs the head of a text, up to its semicolon. */
        boolean performHeader(Simulation target) {
            if (!take(Kind.LIFT)) {
                return false;
            }
            int floors = takeNumber(LEAST_FLOORS, MOST_FLOORS);
            if (floors == NONE) {
                return false;
            }
            int capacity = takeNumber(1, MOST_CAPACITY);
            if (capacity == NONE) {
                return false;
            }
            int policy = takePolicy();
            if (policy == NONE) {
                return false;
            }
            target.begin(floors, capacity, policy);
            return take(Kind.SEMICOLON);
        }

        /** Performs all commands from the next token to the end. */
        boolean performCommands(Simulation target) {
            simulation = target;
            for (int n = 0; n < MOST_TOKENS && nextKind() != Kind.END; n++) {
                boolean good = nextKind() == Kind.REPEAT ? performRepeat() : performSimple();
                if (!good || !take(Kind.SEMICOLON)) {
                    return false;
                }
            }
            return true;
        }

        private boolean performRepeat() {
            at++;
            int times = takeNumber(1, 9);
            if (times == NONE || !take(Kind.OPEN)) {
                return false;
            }
            int body = at;
            for (int round = 0; round < times; round++) {
                at = body;
                for (int n = 0; n < MOST_TOKENS && nextKind() != Kind.CLOSE; n++) {
                    if (!performSimple() || !take(Kind.SEMICOLON)) {
                        return false;
                    }
                }
            }
            return take(Kind.CLOSE);
        }

        private boolean performSimple() {
            executed++;
            switch (nextKind()) {
                case CALL:
                    return performCall();
                case RUN:
                    return performRun();
                case FINISH:
                    at++;
                    simulation.tickToEnd(LAST_TIME - simulation.time);
                    return true;
                case UNTIL:
                    return performUntil();
                case REVERSE:
                    at++;
                    simulation.upward = !simulation.upward;
                    return true;
                case POLICY:
                    return performPolicy();
                case CAPACITY:
                    return performCapacity();
                case EXPECT:
                    return performExpect();
                default:
                    return fail(WRONG_TOKEN, at);
            }
        }

        private boolean performCall() {
            if (simulation.count >= MOST_PASSENGERS) {
                return fail(TOO_MANY_PASSENGERS, at);
            }
            at++;
            int origin = takeNumber(0, simulation.floors - 1);
            if (origin == NONE) {
                return false;
            }
            int destination = takeNumber(0, simulation.floors - 1);
            if (destination == NONE) {
                return false;
            }
            if (destination == origin) {
                return fail(WRONG_NUMBER, at - 1);
            }
            int arrival = simulation.time;
            if (nextKind() == Kind.AT) {
                at++;
                arrival = takeNumber(simulation.time, LAST_TIME);
                if (arrival == NONE) {
                    return false;
                }
            }
            simulation.addArrival(origin, destination, arrival);
            return true;
        }

        private boolean performRun() {
            at++;
            int ticks = takeNumber(1, LAST_TIME);
            if (ticks == NONE) {
                return false;
            }
            if (simulation.time + ticks > LAST_TIME) {
                return fail(NOT_POSSIBLE, at - 1);
            }
            for (int i = 0; i < ticks; i++) {
                simulation.tick();
            }
            return true;
        }

        private boolean performUntil() {
            at++;
            Kind counter = nextKind();
            int value = takeCounterAndValue();
            if (value == NONE) {
                return false;
            }
            for (int time = simulation.time; time < LAST_TIME && count(counter) < value; time++) {
                simulation.tick();
            }
            if (count(counter) < value) {
                return fail(NOT_POSSIBLE, at - 1);
            }
            return true;
        }

        private boolean performPolicy() {
            at++;
            int policy = takePolicy();
            if (policy == NONE) {
                return false;
            }
            simulation.policy = policy;
            return true;
        }

        private boolean performCapacity() {
            at++;
            int capacity = takeNumber(1, MOST_CAPACITY);
            if (capacity == NONE) {
                return false;
            }
            if (simulation.riding > capacity) {
                return fail(NOT_POSSIBLE, at - 1);
            }
            simulation.capacity = capacity;
            return true;
        }

        private boolean performExpect() {
            int word = at;
            at++;
            Kind counter = nextKind();
            int value = takeCounterAndValue();
            if (value == NONE) {
                return false;
            }
            if (count(counter) != value) {
                return fail(NOT_AS_EXPECTED, word);
            }
            return true;
        }

        private int count(Kind counter) {
            switch (counter) {
                case DONE:
                    return simulation.done;
                case RIDING:
                    return simulation.riding;
                case WAITING:
                    return simulation.countWith(LiftScheduler.WAITING);
                case FLOOR:
                    return simulation.floor;
                case DISTANCE:
                    return simulation.distance;
                default:
                    return simulation.time;
            }
        }

        private Kind nextKind() {
            return at < tokens ? kinds[at] : Kind.END;
        }

        private boolean take(Kind kind) {
            if (nextKind() != kind) {
                return fail(WRONG_TOKEN, at);
            }
            at++;
            return true;
        }

        /** Answers NONE if the token is no number or out of range. */
        private int takeNumber(int least, int most) {
            if (nextKind() != Kind.NUMBER) {
                fail(WRONG_TOKEN, at);
                return NONE;
            }
            int value = values[at];
            if (value < least || value > most) {
                fail(WRONG_NUMBER, at);
                return NONE;
            }
            at++;
            return value;
        }

        /** Answers NONE if the token names no policy. */
        private int takePolicy() {
            int policy = NONE;
            switch (nextKind()) {
                case FIRST:
                    policy = FIRST_COME;
                    break;
                case NEAREST:
                    policy = LiftScheduler.NEAREST;
                    break;
                case SWEEP:
                    policy = LiftScheduler.SWEEP;
                    break;
                default:
                    fail(WRONG_TOKEN, at);
                    return NONE;
            }
            at++;
            return policy;
        }

        /** Answers the value; NONE if one of the two tokens is wrong. */
        private int takeCounterAndValue() {
            if (!nextKind().isCounter()) {
                fail(WRONG_TOKEN, at);
                return NONE;
            }
            at++;
            return takeNumber(0, LAST_TIME);
        }

        private boolean fail(int code, int token) {
            errorCode = code;
            if (token >= 0 && token < tokens) {
                errorPosition = starts[token];
            }
            return false;
        }
    }
}
