import java.lang.management.ManagementFactory;
import java.util.function.Consumer;

/** The room of one run: calls that throw nothing make nothing, whatever they do. */
public final class RoomTest {
    private static final int CALLS = 500;
    // An object with all its rows; 7.3 million elements of a run would be far more.
    private static final long ROOM_OF_OBJECT = 100_000;
    // What the measuring itself may make.
    private static final long ROOM_OF_CALLS = 20_000;
    private static final com.sun.management.ThreadMXBean THREADS =
            (com.sun.management.ThreadMXBean) ManagementFactory.getThreadMXBean();

    public static void main(String[] args) {
        made();
        LiftScheduler once = new LiftScheduler();
        long before = made();
        LiftScheduler lift = new LiftScheduler();
        room("an object", made() - before, ROOM_OF_OBJECT);
        for (LiftScheduler filled : new LiftScheduler[] {once, lift}) {
            for (int i = 0; i < 38; i++) {
                filled.addPassenger(i % 10, (i + 3) % 10, 25 * i);
            }
        }
        each("play", lift, x -> {
            x.append(0x72657065, 0x61742039, 0x20287275, 0x6e20313b, 0x756e7469);
            x.append(0x6c207469, 0x6d652039, 0x3b726576, 0x65727365, 0x3b293b20);
            x.play();
            x.undo();
        });
        each("load", once, x -> {
            x.append(0x6c696674, 0x20313020, 0x34207377, 0x6565703b, 0x20202020);
            x.load();
        });
        each("bestPolicy", lift, LiftScheduler::bestPolicy);
        each("ticksWithCapacity", lift, x -> x.ticksWithCapacity(8));
        each("runToEnd", lift, x -> {
            x.runToEnd();
            x.undo();
        });
        each("addPassenger", lift, x -> {
            x.addPassenger(1, 2, 999);
            x.undo();
        });
        each("save and restore", lift, x -> {
            x.save(0);
            x.restore(0);
        });
        each("output", lift, x -> x.outputByte(x.writeBuilding() - x.writeStatus()));
        each("queries", lift, x -> {
            x.queueAt(3, 1);
            x.busiestOrigin();
            x.stopMask();
            x.meanWait();
            x.lastDone();
        });
        Check.end();
    }

    private static void each(String what, LiftScheduler lift, Consumer<LiftScheduler> call) {
        call.accept(lift);
        long before = made();
        for (int i = 0; i < CALLS; i++) {
            call.accept(lift);
        }
        room(what, made() - before, ROOM_OF_CALLS);
    }

    private static void room(String what, long bytes, long most) {
        if (bytes > most) {
            Check.wrong(what + " made " + bytes + " bytes, at most " + most + " are due");
        }
    }

    private static long made() {
        return THREADS.getThreadAllocatedBytes(Thread.currentThread().getId());
    }
}
