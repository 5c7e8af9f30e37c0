import java.util.ArrayDeque;
import java.util.ArrayList;
import java.util.Comparator;
import java.util.Deque;
import java.util.List;
import java.util.OptionalInt;
import java.util.TreeSet;
import java.util.stream.Collectors;
import java.util.stream.IntStream;

/**
 * The document written once more, as near to its words as possible and with nothing spared:
 * statuses are kept as such, queues are sorted when they are asked for, and every change copies
 * the whole state. ModelTest compares LiftScheduler with it.
 */
public final class Model {
    private enum Status { ABSENT, WAITING, RIDING, DONE }

    private static final class Passenger {
        final int number;
        final int origin;
        final int destination;
        final int arrival;
        Status status;
        int boarding = -1;
        int leaving = -1;

        Passenger(int number, int origin, int destination, int arrival, int time) {
            this.number = number;
            this.origin = origin;
            this.destination = destination;
            this.arrival = arrival;
            this.status = time < arrival ? Status.ABSENT : Status.WAITING;
        }

        Passenger(Passenger other) {
            this.number = other.number;
            this.origin = other.origin;
            this.destination = other.destination;
            this.arrival = other.arrival;
            this.status = other.status;
            this.boarding = other.boarding;
            this.leaving = other.leaving;
        }
    }

    private static final class World {
        int floors;
        int capacity;
        int policy;
        int time;
        int floor;
        boolean up = true;
        int moves;
        int doors;
        int idles;
        int turns;
        final List<Passenger> passengers = new ArrayList<>();

        World(int floors, int capacity, int policy) {
            this.floors = floors;
            this.capacity = capacity;
            this.policy = policy;
        }

        World copy() {
            World other = new World(floors, capacity, policy);
            other.time = time;
            other.floor = floor;
            other.up = up;
            other.moves = moves;
            other.doors = doors;
            other.idles = idles;
            other.turns = turns;
            for (Passenger passenger : passengers) {
                other.passengers.add(new Passenger(passenger));
            }
            return other;
        }

        List<Passenger> with(Status status) {
            return passengers.stream().filter(p -> p.status == status).collect(Collectors.toList());
        }

        List<Passenger> boarded() {
            return passengers.stream().filter(p -> p.boarding >= 0).collect(Collectors.toList());
        }

        List<Passenger> queue() {
            List<Passenger> queue = with(Status.WAITING);
            queue.sort(Comparator.<Passenger>comparingInt(p -> p.arrival)
                    .thenComparingInt(p -> p.number));
            return queue;
        }

        List<Passenger> queueOf(int floor) {
            return queue().stream().filter(p -> p.origin == floor).collect(Collectors.toList());
        }

        boolean full() {
            return with(Status.RIDING).size() == capacity;
        }

        TreeSet<Integer> stops() {
            TreeSet<Integer> stops = new TreeSet<>();
            for (Passenger passenger : with(Status.RIDING)) {
                stops.add(passenger.destination);
            }
            if (!full()) {
                for (Passenger passenger : with(Status.WAITING)) {
                    stops.add(passenger.origin);
                }
            }
            return stops;
        }

        boolean sweepTurns() {
            TreeSet<Integer> stops = stops();
            return up ? stops.higher(floor) == null : stops.lower(floor) == null;
        }

        int target(int chosen) {
            TreeSet<Integer> stops = stops();
            if (stops.isEmpty()) {
                return -1;
            }
            if (stops.contains(floor)) {
                return floor;
            }
            switch (chosen) {
                case 0:
                    List<Passenger> riding = with(Status.RIDING);
                    return riding.isEmpty() ? queue().get(0).origin : riding.get(0).destination;
                case 1:
                    // A TreeSet goes upwards and min keeps the first of equals: the lower stop.
                    return stops.stream().min(Comparator.comparingInt(s -> Math.abs(s - floor)))
                            .orElseThrow();
                default:
                    return up != sweepTurns() ? stops.higher(floor) : stops.lower(floor);
            }
        }

        void tick() {
            if (stops().contains(floor)) {
                doors++;
                for (Passenger passenger : with(Status.RIDING)) {
                    if (passenger.destination == floor) {
                        passenger.status = Status.DONE;
                        passenger.leaving = time;
                    }
                }
                for (Passenger passenger : queueOf(floor)) {
                    if (!full()) {
                        passenger.status = Status.RIDING;
                        passenger.boarding = time;
                    }
                }
            } else if (!stops().isEmpty()) {
                int target = target(policy);
                if (policy == 2 && sweepTurns()) {
                    up = !up;
                    turns++;
                }
                floor += Integer.signum(target - floor);
                moves++;
            } else {
                idles++;
            }
            time++;
            for (Passenger passenger : passengers) {
                if (passenger.status == Status.ABSENT && passenger.arrival == time) {
                    passenger.status = Status.WAITING;
                }
            }
        }

        boolean finished() {
            return with(Status.DONE).size() == passengers.size();
        }

        int finish(int end) {
            int begin = time;
            while (!finished() && time < end) {
                tick();
            }
            return time - begin;
        }

        int waits() {
            return boarded().stream().mapToInt(p -> p.boarding - p.arrival).sum();
        }

        int longest() {
            return boarded().stream().mapToInt(p -> p.boarding - p.arrival).max().orElse(0);
        }

        int counter(String name) {
            switch (name) {
                case "done":
                    return with(Status.DONE).size();
                case "riding":
                    return with(Status.RIDING).size();
                case "waiting":
                    return with(Status.WAITING).size();
                case "floor":
                    return floor;
                case "distance":
                    return moves;
                default:
                    return time;
            }
        }

        void add(int origin, int destination, int arrival) {
            passengers.add(new Passenger(passengers.size(), origin, destination, arrival, time));
        }
    }

    /** A parse error; unlike the exceptions of the face it tells the code and the position. */
    private static final class Wrong extends Exception {
        private static final long serialVersionUID = 1;
        final int code;
        final int position;

        Wrong(int code, int position) {
            this.code = code;
            this.position = position;
        }
    }

    /** Reads its text byte by byte, without cutting it into tokens before. */
    private static final class Reader {
        final String text;
        int index = 0;
        World world;
        int executed = 0;

        Reader(String text, World world) {
            this.text = text;
            this.world = world;
        }

        void skip() {
            while (index < text.length() && " \t\n".indexOf(text.charAt(index)) >= 0) {
                index++;
            }
        }

        /** The next token, which is not taken; empty at the end. */
        String peek() {
            skip();
            if (index == text.length()) {
                return "";
            }
            String rest = text.substring(index);
            String letters = rest.replaceFirst("(?s)[^a-z].*", "");
            String digits = rest.replaceFirst("(?s)[^0-9].*", "");
            return !letters.isEmpty() ? letters : !digits.isEmpty() ? digits : rest.substring(0, 1);
        }

        String word(String... allowed) throws Wrong {
            String token = peek();
            for (String word : allowed) {
                if (word.equals(token)) {
                    index += token.length();
                    return token;
                }
            }
            throw new Wrong(1, index);
        }

        int number(int least, int most) throws Wrong {
            String token = peek();
            if (!token.matches("[0-9]+")) {
                throw new Wrong(1, index);
            }
            if (token.length() > 3) {
                throw new Wrong(2, index);
            }
            int value = Integer.parseInt(token);
            if (value < least || value > most) {
                throw new Wrong(2, index);
            }
            index += token.length();
            return value;
        }

        int policy() throws Wrong {
            return List.of("first", "nearest", "sweep").indexOf(word("first", "nearest", "sweep"));
        }

        String counter() throws Wrong {
            return word("done", "riding", "waiting", "floor", "distance", "time");
        }

        void text() throws Wrong {
            word("lift");
            int floors = number(2, 20);
            int capacity = number(1, 8);
            world = new World(floors, capacity, policy());
            word(";");
            script();
        }

        void script() throws Wrong {
            while (!peek().isEmpty()) {
                if (peek().equals("repeat")) {
                    repeat();
                } else {
                    simple();
                }
            }
        }

        void repeat() throws Wrong {
            word("repeat");
            int times = number(1, 9);
            word("(");
            int body = index;
            for (int round = 0; round < times; round++) {
                index = body;
                while (!peek().equals(")")) {
                    simple();
                }
            }
            word(")");
            word(";");
        }

        void simple() throws Wrong {
            String command = peek();
            int start = index;
            word("call", "run", "finish", "until", "reverse", "policy", "capacity", "expect");
            switch (command) {
                case "call":
                    call(start);
                    break;
                case "run":
                    int ticks = number(1, 999);
                    if (world.time + ticks > 999) {
                        throw new Wrong(4, index - String.valueOf(ticks).length());
                    }
                    IntStream.range(0, ticks).forEach(i -> world.tick());
                    break;
                case "finish":
                    world.finish(999);
                    break;
                case "until":
                    until();
                    break;
                case "reverse":
                    world.up = !world.up;
                    break;
                case "policy":
                    world.policy = policy();
                    break;
                case "capacity":
                    capacity();
                    break;
                default:
                    String counter = counter();
                    if (world.counter(counter) != number(0, 999)) {
                        throw new Wrong(5, start);
                    }
            }
            word(";");
            executed++;
        }

        void call(int start) throws Wrong {
            if (world.passengers.size() == 40) {
                throw new Wrong(3, start);
            }
            int origin = number(0, world.floors - 1);
            peek();
            int place = index;
            int destination = number(0, world.floors - 1);
            if (destination == origin) {
                throw new Wrong(2, place);
            }
            int arrival = world.time;
            if (peek().equals("at")) {
                word("at");
                arrival = number(world.time, 999);
            }
            world.add(origin, destination, arrival);
        }

        void until() throws Wrong {
            String counter = counter();
            peek();
            int place = index;
            int value = number(0, 999);
            while (world.counter(counter) < value) {
                if (world.time == 999) {
                    throw new Wrong(4, place);
                }
                world.tick();
            }
        }

        void capacity() throws Wrong {
            peek();
            int place = index;
            int capacity = number(1, 8);
            if (world.with(Status.RIDING).size() > capacity) {
                throw new Wrong(4, place);
            }
            world.capacity = capacity;
        }
    }

    private World world = new World(10, 4, 2);
    private final Deque<World> past = new ArrayDeque<>();
    private final World[] slots = new World[2];
    private String buffer = "";
    private int error = 0;
    private int position = -1;
    private String output = "";

    public int append(int a, int b, int c, int d, int e) {
        if (buffer.length() > 480) {
            return -1;
        }
        for (int word : new int[] {a, b, c, d, e}) {
            buffer += (char) (word >> 24 & 255);
            buffer += (char) (word >> 16 & 255);
            buffer += (char) (word >> 8 & 255);
            buffer += (char) (word & 255);
        }
        return buffer.length();
    }

    public boolean truncate(int length) {
        if (length < 0 || length > buffer.length()) {
            return false;
        }
        buffer = buffer.substring(0, length);
        return true;
    }

    public int load() {
        Reader reader = new Reader(buffer, null);
        read(reader, true);
        world = reader.world;
        past.clear();
        slots[0] = null;
        slots[1] = null;
        return world.passengers.size();
    }

    public int play() {
        Reader reader = new Reader(buffer, world.copy());
        read(reader, false);
        change();
        world = reader.world;
        return reader.executed;
    }

    private void read(Reader reader, boolean wholeText) {
        buffer = "";
        error = 0;
        position = -1;
        try {
            if (wholeText) {
                reader.text();
            } else {
                reader.script();
            }
        } catch (Wrong wrong) {
            error = wrong.code;
            position = wrong.position;
            throw new IllegalArgumentException();
        }
    }

    private void change() {
        past.addLast(world.copy());
        if (past.size() > 8) {
            past.removeFirst();
        }
    }

    public int parseError() {
        return error;
    }

    public int parseErrorPosition() {
        return position;
    }

    public int floorCount() {
        return world.floors;
    }

    public int capacity() {
        return world.capacity;
    }

    public int policy() {
        return world.policy;
    }

    public int time() {
        return world.time;
    }

    public int floor() {
        return world.floor;
    }

    public boolean isUpward() {
        return world.up;
    }

    public boolean isFull() {
        return world.full();
    }

    public int stopMask() {
        return world.stops().stream().mapToInt(f -> 1 << f).sum();
    }

    public int targetBy(int policy) {
        checkArgument(policy >= 0 && policy <= 2);
        return world.target(policy);
    }

    public int distance() {
        return world.moves;
    }

    public int doorTicks() {
        return world.doors;
    }

    public int idleTicks() {
        return world.idles;
    }

    public int reversals() {
        return world.turns;
    }

    public int passengerCount() {
        return world.passengers.size();
    }

    public int statusOf(int passenger) {
        return passenger(passenger).status.ordinal();
    }

    public int originOf(int passenger) {
        return passenger(passenger).origin;
    }

    public int destinationOf(int passenger) {
        return passenger(passenger).destination;
    }

    public int arrivalOf(int passenger) {
        return passenger(passenger).arrival;
    }

    public int boardedAt(int passenger) {
        return passenger(passenger).boarding;
    }

    public int leftAt(int passenger) {
        return passenger(passenger).leaving;
    }

    public int waitOf(int passenger) {
        Passenger one = passenger(passenger);
        return one.boarding < 0 ? -1 : one.boarding - one.arrival;
    }

    public int rideOf(int passenger) {
        Passenger one = passenger(passenger);
        return one.leaving < 0 ? -1 : one.leaving - one.boarding;
    }

    public int detourOf(int passenger) {
        Passenger one = passenger(passenger);
        int direct = Math.abs(one.origin - one.destination) + 1;
        return one.leaving < 0 ? -1 : one.leaving - one.boarding - direct;
    }

    public int countStatus(int status) {
        checkArgument(status >= 0 && status <= 3);
        return world.with(Status.values()[status]).size();
    }

    public int waitingAt(int floor) {
        checkFloor(floor);
        return world.queueOf(floor).size();
    }

    public int queueAt(int floor, int position) {
        checkFloor(floor);
        List<Passenger> queue = world.queueOf(floor);
        return position < 0 || position >= queue.size() ? -1 : queue.get(position).number;
    }

    public int firstWaiting() {
        return world.queue().stream().mapToInt(p -> p.number).findFirst().orElse(-1);
    }

    public int ridingTo(int floor) {
        checkFloor(floor);
        return (int) world.with(Status.RIDING).stream().filter(p -> p.destination == floor).count();
    }

    public int busiestOrigin() {
        OptionalInt most = IntStream.range(0, world.floors).map(this::startingFrom).max();
        if (world.passengers.isEmpty()) {
            return -1;
        }
        return IntStream.range(0, world.floors)
                .filter(f -> startingFrom(f) == most.orElseThrow()).findFirst().orElseThrow();
    }

    private int startingFrom(int floor) {
        return (int) world.passengers.stream().filter(p -> p.origin == floor).count();
    }

    public int passengersBetween(int origin, int destination) {
        checkFloor(origin);
        checkFloor(destination);
        return (int) world.passengers.stream()
                .filter(p -> p.origin == origin && p.destination == destination).count();
    }

    public int nextArrival() {
        return world.with(Status.ABSENT).stream().mapToInt(p -> p.arrival).min().orElse(-1);
    }

    public int totalRide() {
        return world.with(Status.DONE).stream().mapToInt(p -> p.leaving - p.boarding).sum();
    }

    public int longestRide() {
        return world.with(Status.DONE).stream().mapToInt(p -> p.leaving - p.boarding).max()
                .orElse(0);
    }

    public int lastDone() {
        return world.with(Status.DONE).stream()
                .sorted(Comparator.<Passenger>comparingInt(p -> -p.leaving)
                        .thenComparingInt(p -> p.number))
                .mapToInt(p -> p.number).findFirst().orElse(-1);
    }

    public float movingShare() {
        return world.time == 0 ? 0.0f : (float) world.moves / (float) world.time;
    }

    public int totalWait() {
        return world.waits();
    }

    public int longestWait() {
        return world.longest();
    }

    public double meanWait() {
        int number = world.boarded().size();
        return number == 0 ? 0.0 : (double) world.waits() / (double) number;
    }

    public boolean isFinished() {
        return world.finished();
    }

    private World future(int policy, int capacity) {
        World future = world.copy();
        future.policy = policy;
        future.capacity = capacity;
        future.finish(Integer.MAX_VALUE);
        return future;
    }

    public int ticksToFinish() {
        return future(world.policy, world.capacity).time - world.time;
    }

    public int ticksWithPolicy(int policy) {
        checkArgument(policy >= 0 && policy <= 2);
        return future(policy, world.capacity).time - world.time;
    }

    public int waitWithPolicy(int policy) {
        checkArgument(policy >= 0 && policy <= 2);
        return future(policy, world.capacity).waits();
    }

    public int longestWaitWithPolicy(int policy) {
        checkArgument(policy >= 0 && policy <= 2);
        return future(policy, world.capacity).longest();
    }

    public int bestPolicy() {
        return IntStream.range(0, 3).boxed().min(Comparator.comparingInt(this::waitWithPolicy))
                .orElseThrow();
    }

    public int ticksWithCapacity(int capacity) {
        checkArgument(capacity >= 1 && capacity <= 8);
        checkState(world.with(Status.RIDING).size() <= capacity);
        return future(world.policy, capacity).time - world.time;
    }

    public int expectedAt(int passenger) {
        passenger(passenger);
        return future(world.policy, world.capacity).passengers.get(passenger).leaving;
    }

    public int addPassenger(int origin, int destination, int arrival) {
        checkFloor(origin);
        checkFloor(destination);
        checkArgument(destination != origin);
        checkArgument(arrival >= world.time && arrival <= 999);
        checkState(world.passengers.size() < 40);
        change();
        world.add(origin, destination, arrival);
        return world.passengers.size() - 1;
    }

    public int run(int ticks) {
        checkArgument(ticks >= 1 && ticks <= 999);
        checkState(world.time + ticks <= 999);
        change();
        IntStream.range(0, ticks).forEach(i -> world.tick());
        return world.floor;
    }

    public int runToEnd() {
        change();
        return world.finish(999);
    }

    public int setPolicy(int policy) {
        checkArgument(policy >= 0 && policy <= 2);
        change();
        int previous = world.policy;
        world.policy = policy;
        return previous;
    }

    public int setCapacity(int capacity) {
        checkArgument(capacity >= 1 && capacity <= 8);
        checkState(world.with(Status.RIDING).size() <= capacity);
        change();
        int previous = world.capacity;
        world.capacity = capacity;
        return previous;
    }

    public int undo() {
        checkState(!past.isEmpty());
        world = past.removeLast();
        return past.size();
    }

    public int undoDepth() {
        return past.size();
    }

    public boolean save(int slot) {
        checkIndex(slot == 0 || slot == 1);
        boolean empty = slots[slot] == null;
        slots[slot] = world.copy();
        return empty;
    }

    public int restore(int slot) {
        checkIndex(slot == 0 || slot == 1);
        checkState(slots[slot] != null);
        world = slots[slot].copy();
        past.clear();
        return world.time;
    }

    public int writeStatus() {
        output = world.passengers.stream().map(p -> ".wrd".substring(p.status.ordinal()).substring(0, 1))
                .collect(Collectors.joining());
        return output.length();
    }

    public int writeBuilding() {
        String lift = "*" + world.with(Status.RIDING).size();
        output = IntStream.range(0, world.floors)
                .mapToObj(f -> world.queueOf(f).size() + (f == world.floor ? lift : ""))
                .collect(Collectors.joining(","));
        return output.length();
    }

    public int outputByte(int index) {
        return index < 0 || index >= output.length() ? -1 : output.charAt(index);
    }

    private Passenger passenger(int number) {
        checkIndex(number >= 0 && number < world.passengers.size());
        return world.passengers.get(number);
    }

    private void checkFloor(int floor) {
        checkIndex(floor >= 0 && floor < world.floors);
    }

    private static void checkIndex(boolean good) {
        if (!good) {
            throw new IndexOutOfBoundsException();
        }
    }

    private static void checkArgument(boolean good) {
        if (!good) {
            throw new IllegalArgumentException();
        }
    }

    private static void checkState(boolean good) {
        if (!good) {
            throw new IllegalStateException();
        }
    }
}
