import com.sun.management.ThreadMXBean;
import java.lang.management.ManagementFactory;

/**
 * Measures what the constructor and the calls of each kind take of the room that all calls of a run
 * share: rows are made by the constructor and used again, so that the calls take next to nothing.
 */
final class RoomTest {
    private static final ThreadMXBean MEASURE = (ThreadMXBean) ManagementFactory.getThreadMXBean();
    /** What is left of 512 when a world is busy. */
    private static final int CALLS = 380;
    private static final long CONSTRUCTOR = 32_000;
    /** One description grows while it is written for the first time. */
    private static final long ALL_CALLS = 2_000;
    private static final String[] KINDS = {
        "enter and exit", "await and signal", "die and start", "tick", "describe", "replayCost", "bestValue",
        "write and wipe", "run", "save and restore", "reset", "questions"};

    private static int wrong = 0;
    // Kept, so that the machine makes the calls though nobody asks for the answers.
    private static long answers = 0;

    private RoomTest() {
    }

    private static long taken() {
        return MEASURE.getThreadAllocatedBytes(Thread.currentThread().getId());
    }

    private static void compare(String what, long bytes, long most) {
        if (bytes > most) {
            wrong++;
            System.out.println(what + " takes " + bytes + " bytes, " + most + " are allowed");
        }
    }

    /** A world in which much is going on, with a record and a text. */
    private static LockSimulator busy() {
        LockSimulator x = new LockSimulator();
        x.set(6, 8);
        x.reset(6);
        for (int object = 0; object < 8; object++) {
            x.enter(object % 2, object);
            x.hash(object);
        }
        x.enter(2, 0);
        x.enter(3, 1);
        x.await(0, 0, 0);
        x.await(1, 1, 9);
        for (int i = 0; i < 30; i++) {
            x.tick(1);
        }
        for (int i = 0; i < 6; i++) {
            for (char sign : "await 5 7 99;".toCharArray()) {
                x.write(sign);
            }
        }
        return x;
    }

    private static int call(LockSimulator x, int kind, int i) {
        switch (kind) {
            case 0:
                return x.enter(i % 6, 7) + x.exit(i % 6, 7);
            case 1:
                return x.enter(5, 2) + x.await(5, 2, 1) + x.signal(4, 2) + x.signalAll(4, 2) + x.interrupt(5);
            case 2:
                return x.die(i % 6) + x.start(i % 6);
            case 3:
                return x.tick(20);
            case 4:
                return x.describe(i % 8, i % 40);
            case 5:
                return x.replayCost(2, 1 + i % 20);
            case 6:
                return x.bestValue(i % 8);
            case 7:
                return i % 250 == 249 ? x.wipe() : x.write(59);
            case 8:
                return x.run() + x.fault();
            case 9:
                return x.save(i % 2) + x.restore(i % 2);
            case 10:
                return x.reset(2 + i % 5);
            default:
                return x.deadlocked() + x.held(i % 6) + x.monitors() + x.cost() + x.queued(0, i) + x.type(0, i % 3);
        }
    }

    private static long measure(int kind) {
        LockSimulator x = busy();
        long before = taken();
        for (int i = 0; i < CALLS; i++) {
            answers += call(x, kind, i);
        }
        return taken() - before;
    }

    public static void main(String[] args) {
        // The machine loads what it needs at the first use, which is not the program's.
        for (int kind = 0; kind < KINDS.length; kind++) {
            measure(kind);
        }
        long before = taken();
        LockSimulator made = new LockSimulator();
        long constructor = taken() - before;
        compare("the constructor", constructor, CONSTRUCTOR);
        answers += made.threads();
        long dearest = 0;
        for (int kind = 0; kind < KINDS.length; kind++) {
            long bytes = measure(kind);
            dearest = Math.max(dearest, bytes);
            compare(KINDS[kind], bytes, ALL_CALLS);
        }
        System.out.println("the constructor takes " + constructor + " bytes, " + CALLS + " calls of a kind at most "
            + dearest + "; " + wrong + " take too much");
        if (wrong != 0) {
            System.exit(1);
        }
    }
}
