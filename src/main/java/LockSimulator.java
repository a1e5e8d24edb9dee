import java.util.Arrays;

/**
 * Simulates the monitors of a Java virtual machine: lock words, entry queues, wait sets, monitors
 * and costs. What each call promises stands in the project's document.
 */
public final class LockSimulator {
    public static final int BAD_THREAD = -1;
    public static final int BAD_OBJECT = -2;
    public static final int BAD_VALUE = -3;
    public static final int NOT_RUNNING = -4;
    public static final int NOT_OWNER = -5;
    public static final int FULL = -6;
    public static final int NOT_POSSIBLE = -7;
    public static final int NONE = -8;
    public static final int INTERRUPTED = -9;

    private static final int FEWEST_THREADS = 2;
    private static final int MOST_THREADS = 6;
    private static final int FIRST_THREADS = 3;
    private static final int OBJECTS = 8;
    private static final int CLASSES = 3;
    private static final int SLOTS = 2;

    private final World world = new World();
    // Replays happen here, so that the present world does not notice them.
    private final World trial = new World();
    private final Journal journal = new Journal();
    private final Script script = new Script();
    private final Slot[] slots = new Slot[SLOTS];
    private final StringBuilder description = new StringBuilder();

    public LockSimulator() {
        for (int slot = 0; slot < SLOTS; slot++) {
            slots[slot] = new Slot();
        }
    }

    // ---- The world.

    public int reset(int threads) {
        if (threads < FEWEST_THREADS || threads > MOST_THREADS) {
            return BAD_VALUE;
        }
        int previous = world.threadCount;
        world.begin(threads);
        journal.clear();
        return previous;
    }

    public int set(int setting, int value) {
        if (!Settings.allows(setting, value)) {
            return BAD_VALUE;
        }
        if (setting == Settings.CAPACITY && value < world.monitorsInUse()) {
            return NOT_POSSIBLE;
        }
        int previous = world.settings.valueOf(setting);
        world.settings.change(setting, value);
        return previous;
    }

    public int setting(int setting) {
        return Settings.exists(setting) ? world.settings.valueOf(setting) : BAD_VALUE;
    }

    // ---- Operations.

    public int enter(int thread, int object) {
        return operate(Operation.ENTER, thread, object, 0);
    }

    public int exit(int thread, int object) {
        return operate(Operation.EXIT, thread, object, 0);
    }

    public int await(int thread, int object, int limit) {
        return operate(Operation.AWAIT, thread, object, limit);
    }

    public int signal(int thread, int object) {
        return operate(Operation.SIGNAL, thread, object, 0);
    }

    public int signalAll(int thread, int object) {
        return operate(Operation.SIGNAL_ALL, thread, object, 0);
    }

    public int interrupt(int thread) {
        return operate(Operation.INTERRUPT, thread, 0, 0);
    }

    public int die(int thread) {
        return operate(Operation.DIE, thread, 0, 0);
    }

    public int start(int thread) {
        return operate(Operation.START, thread, 0, 0);
    }

    public int hash(int object) {
        return operate(Operation.HASH, object, 0, 0);
    }

    public int tick(int ticks) {
        return operate(Operation.TICK, ticks, 0, 0);
    }

    private int operate(int operation, int first, int second, int third) {
        int result = world.perform(operation, first, second, third);
        if (!isError(result)) {
            journal.add(operation, first, second, third);
        }
        return result;
    }

    private static boolean isError(int result) {
        return result < 0 && result != NONE && result != INTERRUPTED;
    }

    // ---- Threads.

    public int threads() {
        return world.threadCount;
    }

    public int threadState(int thread) {
        if (!world.hasThread(thread)) {
            return BAD_THREAD;
        }
        Strand strand = world.strands[thread];
        return strand.interrupted ? strand.state + 10 : strand.state;
    }

    public int threadAt(int thread) {
        return world.hasThread(thread) ? world.strands[thread].place : BAD_THREAD;
    }

    public int held(int thread) {
        if (!world.hasThread(thread)) {
            return BAD_THREAD;
        }
        int set = 0;
        for (int object = 0; object < OBJECTS; object++) {
            if (world.locks[object].isHeldBy(thread)) {
                set |= 1 << object;
            }
        }
        return set;
    }

    public int waitEnd(int thread) {
        return world.hasThread(thread) ? world.strands[thread].waitEnding : BAD_THREAD;
    }

    public int deadlocked() {
        int set = 0;
        for (int thread = 0; thread < world.threadCount; thread++) {
            if (world.waitsForItself(thread)) {
                set |= 1 << thread;
            }
        }
        return set;
    }

    // ---- Objects.

    public int lockState(int object) {
        if (!isObject(object)) {
            return BAD_OBJECT;
        }
        Lock lock = world.locks[object];
        return lock.abandoned ? lock.state + 10 : lock.state;
    }

    public int owner(int object) {
        return isObject(object) ? world.locks[object].holder : BAD_OBJECT;
    }

    public int count(int object) {
        return isObject(object) ? world.locks[object].entries : BAD_OBJECT;
    }

    public int bias(int object) {
        if (!isObject(object)) {
            return BAD_OBJECT;
        }
        Lock lock = world.locks[object];
        if (lock.state != Lock.BIASED) {
            return NONE;
        }
        return world.biasIsValid(lock) ? lock.biasThread : lock.biasThread + 10;
    }

    public int queued(int object, int k) {
        if (!isObject(object)) {
            return BAD_OBJECT;
        }
        return k < 0 ? BAD_VALUE : world.locks[object].queue.at(k);
    }

    public int waiting(int object, int k) {
        if (!isObject(object)) {
            return BAD_OBJECT;
        }
        return k < 0 ? BAD_VALUE : world.locks[object].waitSet.at(k);
    }

    public int describe(int object, int k) {
        if (!isObject(object)) {
            return BAD_OBJECT;
        }
        if (k < 0) {
            return BAD_VALUE;
        }
        Lock lock = world.locks[object];
        description.setLength(0);
        lock.putDescription(description, world.biasIsValid(lock));
        if (k >= description.length()) {
            return NONE;
        }
        return description.charAt(k);
    }

    private static boolean isObject(int object) {
        return object >= 0 && object < OBJECTS;
    }

    // ---- Classes and counts.

    public int type(int type, int what) {
        if (type < 0 || type >= CLASSES) {
            return BAD_VALUE;
        }
        Kind kind = world.kinds[type];
        switch (what) {
            case 0:
                return kind.epoch;
            case 1:
                return kind.revocations;
            case 2:
                return kind.biasable ? 1 : 0;
            default:
                return BAD_VALUE;
        }
    }

    public int time() {
        return world.now;
    }

    public int monitors() {
        return world.monitorsInUse();
    }

    public int counted(int what) {
        return what < 0 || what >= Tally.KINDS ? BAD_VALUE : world.counts[what];
    }

    public int cost() {
        return Tally.price(world.counts);
    }

    // ---- The record.

    public int recorded() {
        return journal.size;
    }

    public int replayCost(int setting, int value) {
        return Settings.allows(setting, value) ? costWith(setting, value) : BAD_VALUE;
    }

    public int bestValue(int setting) {
        if (!Settings.exists(setting)) {
            return BAD_VALUE;
        }
        int best = Settings.least(setting);
        int bestCost = costWith(setting, best);
        for (int value = best + 1; value <= Settings.greatest(setting); value++) {
            int valueCost = costWith(setting, value);
            if (valueCost < bestCost) {
                best = value;
                bestCost = valueCost;
            }
        }
        return best;
    }

    private int costWith(int setting, int value) {
        trial.settings.copyFrom(world.settings);
        trial.settings.change(setting, value);
        trial.begin(world.threadCount);
        for (int i = 0; i < journal.size; i++) {
            trial.perform(journal.operations[i], journal.firsts[i], journal.seconds[i], journal.thirds[i]);
        }
        return Tally.price(trial.counts);
    }

    // ---- The text.

    public int write(int code) {
        if (code < Script.LEAST_CODE || code > Script.GREATEST_CODE) {
            return BAD_VALUE;
        }
        return script.append(code) ? script.length : FULL;
    }

    public int wipe() {
        int previous = script.length;
        script.length = 0;
        return previous;
    }

    public int fault() {
        return script.faultyItem();
    }

    public int run() {
        if (script.faultyItem() != NONE) {
            return NOT_POSSIBLE;
        }
        int errors = 0;
        int start = 0;
        for (int item = 0; item < Script.CAPACITY && start < script.length; item++) {
            int end = script.endOfItem(start);
            int operation = script.readItem(start, end);
            if (isError(operate(operation, script.argument(0), script.argument(1), script.argument(2)))) {
                errors++;
            }
            start = end + 1;
        }
        return errors;
    }

    // ---- Saved states.

    public int save(int slot) {
        if (slot < 0 || slot >= SLOTS) {
            return BAD_VALUE;
        }
        Slot into = slots[slot];
        into.world.copyFrom(world);
        into.journal.copyFrom(journal);
        into.used = true;
        return world.now;
    }

    public int restore(int slot) {
        if (slot < 0 || slot >= SLOTS) {
            return BAD_VALUE;
        }
        Slot from = slots[slot];
        if (!from.used) {
            return NOT_POSSIBLE;
        }
        world.copyFrom(from.world);
        journal.copyFrom(from.journal);
        return world.now;
    }

    /** The operations that are recorded and that a text can name, with the form of their items. */
    static final class Operation {
        static final int ENTER = 0;
        static final int EXIT = 1;
        static final int AWAIT = 2;
        static final int SIGNAL = 3;
        static final int SIGNAL_ALL = 4;
        static final int INTERRUPT = 5;
        static final int DIE = 6;
        static final int START = 7;
        static final int HASH = 8;
        static final int TICK = 9;
        static final int KINDS = 10;

        /** T, O and N stand for a thread, an object and a number; no word has these capitals. */
        static String form(int operation) {
            switch (operation) {
                case ENTER:
                    return "enter T O";
                case EXIT:
                    return "exit T O";
                case AWAIT:
                    return "await T O N";
                case SIGNAL:
                    return "signal T O";
                case SIGNAL_ALL:
                    return "signalAll T O";
                case INTERRUPT:
                    return "interrupt T";
                case DIE:
                    return "die T";
                case START:
                    return "start T";
                case HASH:
                    return "hash O";
                default:
                    return "tick N";
            }
        }
    }

    static final class Settings {
        static final int BIASING = 0;
        static final int HAND_OFF = 1;
        static final int REBIAS_THRESHOLD = 2;
        static final int REVOKE_THRESHOLD = 3;
        static final int RECURSION_LIMIT = 4;
        static final int IDLE_LIMIT = 5;
        static final int CAPACITY = 6;
        static final int NOTIFY_ORDER = 7;
        private static final int KINDS = 8;
        private static final int[] LEAST = {0, 0, 1, 1, 1, 1, 1, 0};
        private static final int[] GREATEST = {1, 1, 20, 20, 15, 20, 8, 1};
        private static final int[] FIRST = {1, 0, 4, 8, 3, 5, 4, 0};

        private final int[] values = new int[KINDS];

        Settings() {
            System.arraycopy(FIRST, 0, values, 0, KINDS);
        }

        static boolean exists(int setting) {
            return setting >= 0 && setting < KINDS;
        }

        static boolean allows(int setting, int value) {
            return exists(setting) && value >= LEAST[setting] && value <= GREATEST[setting];
        }

        static int least(int setting) {
            return exists(setting) ? LEAST[setting] : 0;
        }

        static int greatest(int setting) {
            return exists(setting) ? GREATEST[setting] : 0;
        }

        int valueOf(int setting) {
            return setting >= 0 && setting < KINDS ? values[setting] : 0;
        }

        void change(int setting, int value) {
            if (allows(setting, value)) {
                values[setting] = value;
            }
        }

        void copyFrom(Settings other) {
            System.arraycopy(other.values, 0, values, 0, KINDS);
        }
    }

    /** The things that are counted, and what each of them costs. */
    static final class Tally {
        static final int ATOMIC = 0;
        static final int REVOCATION = 1;
        static final int INFLATION = 2;
        static final int DEFLATION = 3;
        static final int BLOCKING = 4;
        static final int WAKEUP = 5;
        static final int HAND_OFF = 6;
        static final int BARGING = 7;
        static final int RECOVERY = 8;
        static final int KINDS = 9;
        private static final int[] PRICES = {2, 20, 10, 5, 30, 5, 3, 0, 0};

        static int price(int[] counts) {
            int sum = 0;
            for (int what = 0; what < KINDS && what < counts.length; what++) {
                sum += PRICES[what] * counts[what];
            }
            return sum;
        }
    }

    /** Threads in their order: an entry queue or a wait set. */
    static final class Line {
        private final int[] members = new int[MOST_THREADS];
        private int size;

        boolean isEmpty() {
            return size == 0;
        }

        int at(int k) {
            return k >= 0 && k < size ? members[k] : NONE;
        }

        void append(int thread) {
            if (size < MOST_THREADS) {
                members[size] = thread;
                size++;
            }
        }

        void putFirst(int thread) {
            if (size < MOST_THREADS) {
                for (int k = size; k > 0; k--) {
                    members[k] = members[k - 1];
                }
                members[0] = thread;
                size++;
            }
        }

        void drop(int thread) {
            int kept = 0;
            for (int k = 0; k < size; k++) {
                if (members[k] != thread) {
                    members[kept] = members[k];
                    kept++;
                }
            }
            size = kept;
        }

        void clear() {
            size = 0;
        }

        void putMembers(StringBuilder to) {
            for (int k = 0; k < size; k++) {
                to.append(members[k]);
            }
        }

        void copyFrom(Line other) {
            System.arraycopy(other.members, 0, members, 0, MOST_THREADS);
            size = other.size;
        }
    }

    /** A simulated thread. */
    static final class Strand {
        static final int RUNNING = 0;
        static final int BLOCKED = 1;
        static final int WAITING = 2;
        static final int DEAD = 3;
        static final int NOTIFIED = 1;
        static final int TIMED_OUT = 2;
        static final int WAS_INTERRUPTED = 3;
        static final int NO_LIMIT = -1;

        int state;
        boolean interrupted;
        // The object in whose entry queue or wait set it is, or NONE.
        int place;
        // The time at which its wait ends, or NO_LIMIT.
        int limit;
        // The count that it gets when it acquires the object at which it is.
        int dueEntries;
        int waitEnding;

        void clear() {
            state = RUNNING;
            interrupted = false;
            place = NONE;
            limit = NO_LIMIT;
            dueEntries = 1;
            waitEnding = NONE;
        }

        void leavePlace(int nextState) {
            state = nextState;
            place = NONE;
        }

        void copyFrom(Strand other) {
            state = other.state;
            interrupted = other.interrupted;
            place = other.place;
            limit = other.limit;
            dueEntries = other.dueEntries;
            waitEnding = other.waitEnding;
        }
    }

    /** A class of simulated objects. */
    static final class Kind {
        int epoch;
        int revocations;
        boolean biasable;

        void clear() {
            epoch = 0;
            revocations = 0;
            biasable = true;
        }

        void copyFrom(Kind other) {
            epoch = other.epoch;
            revocations = other.revocations;
            biasable = other.biasable;
        }
    }

    /** A simulated object: its lock word, its hash code, and its monitor if it is inflated. */
    static final class Lock {
        static final int NEUTRAL = 0;
        static final int BIASABLE = 1;
        static final int BIASED = 2;
        static final int THIN = 3;
        static final int INFLATED = 4;
        static final int NO_HASH = -1;

        final int number;
        final int kind;
        int state;
        int holder;
        int entries;
        int biasThread;
        int epoch;
        boolean abandoned;
        int hashValue;
        int idleSince;
        // Both are empty unless the object is inflated.
        final Line queue = new Line();
        final Line waitSet = new Line();

        Lock(int number) {
            this.number = number;
            this.kind = number % CLASSES;
        }

        void clear(boolean biasing) {
            state = biasing ? BIASABLE : NEUTRAL;
            letGo();
            biasThread = NONE;
            epoch = 0;
            abandoned = false;
            hashValue = NO_HASH;
            idleSince = 0;
            queue.clear();
            waitSet.clear();
        }

        boolean isHeld() {
            return entries > 0;
        }

        boolean isHeldBy(int thread) {
            return isHeld() && holder == thread;
        }

        boolean isIdle() {
            return state == INFLATED && entries == 0 && queue.size == 0 && waitSet.size == 0;
        }

        void give(int thread, int times) {
            holder = thread;
            entries = times;
        }

        void letGo() {
            holder = NONE;
            entries = 0;
        }

        void loseBias() {
            state = entries > 0 ? THIN : NEUTRAL;
        }

        void putDescription(StringBuilder to, boolean biasValid) {
            to.append(stateWord());
            if (state == BIASED) {
                to.append(" to ").append(biasThread);
                to.append(biasValid ? "" : " old");
            }
            if (isHeld()) {
                to.append(" by ").append(holder).append(" x").append(entries);
            }
            if (!queue.isEmpty()) {
                to.append(" queue ");
                queue.putMembers(to);
            }
            if (!waitSet.isEmpty()) {
                to.append(" wait ");
                waitSet.putMembers(to);
            }
            if (hashValue != NO_HASH) {
                to.append(" #").append(hashValue);
            }
            to.append(abandoned ? " abandoned" : "");
        }

        private String stateWord() {
            switch (state) {
                case NEUTRAL:
                    return "neutral";
                case BIASABLE:
                    return "biasable";
                case BIASED:
                    return "biased";
                case THIN:
                    return "thin";
                default:
                    return "inflated";
            }
        }

        void copyFrom(Lock other) {
            state = other.state;
            holder = other.holder;
            entries = other.entries;
            biasThread = other.biasThread;
            epoch = other.epoch;
            abandoned = other.abandoned;
            hashValue = other.hashValue;
            idleSince = other.idleSince;
            queue.copyFrom(other.queue);
            waitSet.copyFrom(other.waitSet);
        }
    }

    /** Everything that operations read and change. */
    static final class World {
        private static final int LONGEST_WAIT = 50;
        private static final int MOST_TICKS = 20;
        private static final int RECOVERED = 10;

        final Settings settings = new Settings();
        final int[] counts = new int[Tally.KINDS];
        final Strand[] strands = new Strand[MOST_THREADS];
        final Lock[] locks = new Lock[OBJECTS];
        final Kind[] kinds = new Kind[CLASSES];
        int threadCount;
        int now;
        private int hashesMade;

        World() {
            for (int thread = 0; thread < MOST_THREADS; thread++) {
                strands[thread] = new Strand();
            }
            for (int object = 0; object < OBJECTS; object++) {
                locks[object] = new Lock(object);
            }
            for (int kind = 0; kind < CLASSES; kind++) {
                kinds[kind] = new Kind();
            }
            begin(FIRST_THREADS);
        }

        void begin(int threads) {
            threadCount = threads;
            now = 0;
            hashesMade = 0;
            Arrays.fill(counts, 0);
            for (Strand strand : strands) {
                strand.clear();
            }
            boolean biasing = settings.valueOf(Settings.BIASING) == 1;
            for (Lock lock : locks) {
                lock.clear(biasing);
            }
            for (Kind kind : kinds) {
                kind.clear();
            }
        }

        void copyFrom(World other) {
            threadCount = other.threadCount;
            now = other.now;
            hashesMade = other.hashesMade;
            settings.copyFrom(other.settings);
            System.arraycopy(other.counts, 0, counts, 0, Tally.KINDS);
            for (int thread = 0; thread < MOST_THREADS; thread++) {
                strands[thread].copyFrom(other.strands[thread]);
            }
            for (int object = 0; object < OBJECTS; object++) {
                locks[object].copyFrom(other.locks[object]);
            }
            for (int kind = 0; kind < CLASSES; kind++) {
                kinds[kind].copyFrom(other.kinds[kind]);
            }
        }

        int perform(int operation, int first, int second, int third) {
            switch (operation) {
                case Operation.ENTER:
                    return enterObject(first, second);
                case Operation.EXIT:
                    return exitObject(first, second);
                case Operation.AWAIT:
                    return awaitAt(first, second, third);
                case Operation.SIGNAL:
                    return notifyFirst(first, second);
                case Operation.SIGNAL_ALL:
                    return notifyEach(first, second);
                case Operation.INTERRUPT:
                    return interruptThread(first);
                case Operation.DIE:
                    return endThread(first);
                case Operation.START:
                    return startThread(first);
                case Operation.HASH:
                    return hashOf(first);
                case Operation.TICK:
                    return letPass(first);
                default:
                    return BAD_VALUE;
            }
        }

        boolean hasThread(int thread) {
            return thread >= 0 && thread < threadCount && thread < MOST_THREADS;
        }

        private int runnerError(int thread, int object) {
            if (!hasThread(thread)) {
                return BAD_THREAD;
            }
            if (!isObject(object)) {
                return BAD_OBJECT;
            }
            return strands[thread].state == Strand.RUNNING ? 0 : NOT_RUNNING;
        }

        private int ownerError(int thread, int object) {
            int error = runnerError(thread, object);
            if (error != 0) {
                return error;
            }
            return locks[object].isHeldBy(thread) ? 0 : NOT_OWNER;
        }

        private int enterObject(int thread, int object) {
            int error = runnerError(thread, object);
            if (error != 0) {
                return error;
            }
            Lock lock = locks[object];
            boolean needsMonitor = entryNeedsMonitor(thread, lock);
            // Asked before the bias is revoked, since a call that is refused changes nothing.
            if (needsMonitor && !canInflate()) {
                return FULL;
            }
            if (lock.state == Lock.BIASED && lock.biasThread != thread && biasIsValid(lock)) {
                revokeBias(lock);
            }
            if (needsMonitor) {
                inflate(lock);
            }
            if (lock.isHeldBy(thread)) {
                lock.entries++;
                return 4;
            }
            if (lock.isHeld()) {
                block(thread, lock);
                return 0;
            }
            int recovery = recover(lock);
            return recovery + take(thread, lock);
        }

        private boolean entryNeedsMonitor(int thread, Lock lock) {
            if (!lock.isHeld() || lock.state == Lock.INFLATED) {
                return false;
            }
            if (lock.holder != thread) {
                return true;
            }
            return lock.state == Lock.THIN && lock.entries >= settings.valueOf(Settings.RECURSION_LIMIT);
        }

        /** Here the object is not held, and has no valid bias to another thread. */
        private int take(int thread, Lock lock) {
            switch (lock.state) {
                case Lock.BIASABLE:
                case Lock.BIASED:
                    takeBiased(thread, lock);
                    return 1;
                case Lock.NEUTRAL:
                    lock.state = Lock.THIN;
                    lock.give(thread, 1);
                    counts[Tally.ATOMIC]++;
                    return 2;
                default:
                    lock.give(thread, 1);
                    counts[Tally.ATOMIC]++;
                    if (!lock.queue.isEmpty()) {
                        counts[Tally.BARGING]++;
                    }
                    return 3;
            }
        }

        private void takeBiased(int thread, Lock lock) {
            lock.give(thread, 1);
            if (lock.state == Lock.BIASED && lock.biasThread == thread && biasIsValid(lock)) {
                return;
            }
            lock.state = Lock.BIASED;
            lock.biasThread = thread;
            lock.epoch = kinds[lock.kind].epoch;
            counts[Tally.ATOMIC]++;
        }

        private void block(int thread, Lock lock) {
            lock.queue.append(thread);
            Strand strand = strands[thread];
            strand.state = Strand.BLOCKED;
            strand.place = lock.number;
            strand.dueEntries = 1;
            counts[Tally.BLOCKING]++;
        }

        private int recover(Lock lock) {
            if (!lock.abandoned) {
                return 0;
            }
            lock.abandoned = false;
            counts[Tally.RECOVERY]++;
            return RECOVERED;
        }

        boolean biasIsValid(Lock lock) {
            return lock.epoch == kinds[lock.kind].epoch;
        }

        private void revokeBias(Lock lock) {
            Kind kind = kinds[lock.kind];
            kind.revocations++;
            counts[Tally.REVOCATION]++;
            if (kind.revocations >= settings.valueOf(Settings.REVOKE_THRESHOLD)) {
                endBiasing(lock.kind);
            } else if (kind.revocations == settings.valueOf(Settings.REBIAS_THRESHOLD)) {
                beginEpoch(lock.kind);
                if (lock.isHeld()) {
                    lock.loseBias();
                }
            } else {
                lock.loseBias();
            }
        }

        private void endBiasing(int kind) {
            kinds[kind].biasable = false;
            for (int object = kind; object < OBJECTS; object += CLASSES) {
                Lock lock = locks[object];
                if (lock.state == Lock.BIASABLE || lock.state == Lock.BIASED) {
                    lock.loseBias();
                }
            }
        }

        private void beginEpoch(int kind) {
            kinds[kind].epoch++;
            for (int object = kind; object < OBJECTS; object += CLASSES) {
                Lock lock = locks[object];
                if (lock.state == Lock.BIASED && lock.isHeld()) {
                    lock.epoch = kinds[kind].epoch;
                }
            }
        }

        int monitorsInUse() {
            int used = 0;
            for (Lock lock : locks) {
                if (lock.state == Lock.INFLATED) {
                    used++;
                }
            }
            return used;
        }

        private boolean monitorIsFree() {
            return monitorsInUse() < settings.valueOf(Settings.CAPACITY);
        }

        private boolean canInflate() {
            return monitorIsFree() || longestIdle() != null;
        }

        private Lock longestIdle() {
            Lock found = null;
            for (Lock lock : locks) {
                if (lock.isIdle() && (found == null || lock.idleSince < found.idleSince)) {
                    found = lock;
                }
            }
            return found;
        }

        /** The caller has asked whether it is possible. */
        private void inflate(Lock lock) {
            if (!monitorIsFree()) {
                Lock idle = longestIdle();
                if (idle != null) {
                    deflate(idle);
                }
            }
            lock.state = Lock.INFLATED;
            lock.idleSince = now;
            counts[Tally.INFLATION]++;
        }

        private void deflate(Lock lock) {
            lock.state = Lock.NEUTRAL;
            counts[Tally.DEFLATION]++;
        }

        private int exitObject(int thread, int object) {
            int error = ownerError(thread, object);
            if (error != 0) {
                return error;
            }
            Lock lock = locks[object];
            if (lock.entries > 1) {
                lock.entries--;
                return lock.entries;
            }
            release(lock);
            return 0;
        }

        private void release(Lock lock) {
            lock.letGo();
            if (lock.state == Lock.THIN) {
                lock.state = Lock.NEUTRAL;
                counts[Tally.ATOMIC]++;
            } else if (lock.state == Lock.INFLATED) {
                lock.idleSince = now;
                if (settings.valueOf(Settings.HAND_OFF) == 1 && !lock.queue.isEmpty()) {
                    counts[Tally.HAND_OFF]++;
                    giveToFirst(lock);
                }
            }
        }

        private void giveToFirst(Lock lock) {
            int thread = lock.queue.at(0);
            if (!hasThread(thread)) {
                return;
            }
            lock.queue.drop(thread);
            Strand strand = strands[thread];
            lock.give(thread, strand.dueEntries);
            strand.leavePlace(Strand.RUNNING);
            recover(lock);
        }

        private int awaitAt(int thread, int object, int limit) {
            boolean badLimit = limit < 0 || limit > LONGEST_WAIT;
            // A wrong number comes before a wrong limit, and the thread's state behind it.
            if (badLimit && hasThread(thread) && isObject(object)) {
                return BAD_VALUE;
            }
            int error = ownerError(thread, object);
            if (error != 0) {
                return error;
            }
            Strand strand = strands[thread];
            if (strand.interrupted) {
                strand.interrupted = false;
                strand.waitEnding = Strand.WAS_INTERRUPTED;
                return INTERRUPTED;
            }
            Lock lock = locks[object];
            if (lock.state != Lock.INFLATED) {
                if (!canInflate()) {
                    return FULL;
                }
                inflate(lock);
            }
            beginWait(thread, lock, limit);
            release(lock);
            return strand.dueEntries;
        }

        private void beginWait(int thread, Lock lock, int limit) {
            Strand strand = strands[thread];
            strand.state = Strand.WAITING;
            strand.place = lock.number;
            strand.limit = limit == 0 ? Strand.NO_LIMIT : now + limit;
            strand.dueEntries = lock.entries;
            lock.waitSet.append(thread);
        }

        private int notifyFirst(int thread, int object) {
            int error = ownerError(thread, object);
            if (error != 0) {
                return error;
            }
            Lock lock = locks[object];
            int notified = lock.waitSet.at(0);
            if (!hasThread(notified)) {
                return NONE;
            }
            endWait(notified, lock, Strand.NOTIFIED);
            if (settings.valueOf(Settings.NOTIFY_ORDER) == 1) {
                lock.queue.putFirst(notified);
            } else {
                lock.queue.append(notified);
            }
            return notified;
        }

        private int notifyEach(int thread, int object) {
            int error = ownerError(thread, object);
            if (error != 0) {
                return error;
            }
            Lock lock = locks[object];
            int notified = 0;
            for (int i = 0; i < MOST_THREADS; i++) {
                int next = lock.waitSet.at(0);
                if (hasThread(next)) {
                    endWait(next, lock, Strand.NOTIFIED);
                    lock.queue.append(next);
                    notified++;
                }
            }
            return notified;
        }

        /** The caller puts the thread into the entry queue, since the place there differs. */
        private void endWait(int thread, Lock lock, int ending) {
            lock.waitSet.drop(thread);
            Strand strand = strands[thread];
            strand.state = Strand.BLOCKED;
            strand.waitEnding = ending;
        }

        private int interruptThread(int thread) {
            if (!hasThread(thread)) {
                return BAD_THREAD;
            }
            Strand strand = strands[thread];
            if (strand.state == Strand.DEAD) {
                return NOT_POSSIBLE;
            }
            if (strand.state == Strand.WAITING && isObject(strand.place)) {
                Lock lock = locks[strand.place];
                endWait(thread, lock, Strand.WAS_INTERRUPTED);
                lock.queue.append(thread);
                return 1;
            }
            strand.interrupted = true;
            return 0;
        }

        private int endThread(int thread) {
            if (!hasThread(thread)) {
                return BAD_THREAD;
            }
            Strand strand = strands[thread];
            if (strand.state == Strand.DEAD) {
                return NOT_POSSIBLE;
            }
            if (isObject(strand.place)) {
                locks[strand.place].queue.drop(thread);
                locks[strand.place].waitSet.drop(thread);
            }
            strand.leavePlace(Strand.DEAD);
            strand.interrupted = false;
            int abandoned = 0;
            for (Lock lock : locks) {
                if (lock.isHeldBy(thread)) {
                    lock.abandoned = true;
                    release(lock);
                    abandoned++;
                }
            }
            return abandoned;
        }

        private int startThread(int thread) {
            if (!hasThread(thread)) {
                return BAD_THREAD;
            }
            if (strands[thread].state != Strand.DEAD) {
                return NOT_POSSIBLE;
            }
            strands[thread].state = Strand.RUNNING;
            int alive = 0;
            for (int other = 0; other < threadCount; other++) {
                if (strands[other].state != Strand.DEAD) {
                    alive++;
                }
            }
            return alive;
        }

        private int hashOf(int object) {
            if (!isObject(object)) {
                return BAD_OBJECT;
            }
            Lock lock = locks[object];
            if (lock.hashValue != Lock.NO_HASH) {
                return lock.hashValue;
            }
            if (lock.isHeld() && lock.state != Lock.INFLATED) {
                if (!canInflate()) {
                    return FULL;
                }
                inflate(lock);
            } else if (lock.state != Lock.INFLATED) {
                lock.state = Lock.NEUTRAL;
            }
            hashesMade++;
            lock.hashValue = (7919 * hashesMade + 13 * object) % 1000;
            return lock.hashValue;
        }

        private int letPass(int ticks) {
            if (ticks < 1 || ticks > MOST_TICKS) {
                return BAD_VALUE;
            }
            int wakeups = 0;
            for (int i = 0; i < ticks; i++) {
                now++;
                endOverdueWaits();
                wakeups += wakeQueues();
                deflateOverdue();
            }
            return wakeups;
        }

        private void endOverdueWaits() {
            for (int thread = 0; thread < threadCount; thread++) {
                Strand strand = strands[thread];
                boolean limited = strand.state == Strand.WAITING && strand.limit != Strand.NO_LIMIT;
                if (limited && strand.limit <= now && isObject(strand.place)) {
                    Lock lock = locks[strand.place];
                    endWait(thread, lock, Strand.TIMED_OUT);
                    lock.queue.append(thread);
                }
            }
        }

        private int wakeQueues() {
            int wakeups = 0;
            for (Lock lock : locks) {
                if (lock.state == Lock.INFLATED && !lock.isHeld() && !lock.queue.isEmpty()) {
                    counts[Tally.WAKEUP]++;
                    giveToFirst(lock);
                    wakeups++;
                }
            }
            return wakeups;
        }

        private void deflateOverdue() {
            int idleLimit = settings.valueOf(Settings.IDLE_LIMIT);
            for (Lock lock : locks) {
                if (lock.isIdle() && now - lock.idleSince >= idleLimit) {
                    deflate(lock);
                }
            }
        }

        boolean waitsForItself(int thread) {
            int next = thread;
            for (int step = 0; step < threadCount; step++) {
                next = waitedFor(next);
                if (next == thread) {
                    return true;
                }
            }
            return false;
        }

        private int waitedFor(int thread) {
            if (!hasThread(thread)) {
                return NONE;
            }
            Strand strand = strands[thread];
            boolean blocked = strand.state == Strand.BLOCKED && isObject(strand.place);
            return blocked ? locks[strand.place].holder : NONE;
        }
    }

    /** The record of operations. */
    static final class Journal {
        private static final int CAPACITY = 60;

        final int[] operations = new int[CAPACITY];
        final int[] firsts = new int[CAPACITY];
        final int[] seconds = new int[CAPACITY];
        final int[] thirds = new int[CAPACITY];
        int size;

        void add(int operation, int first, int second, int third) {
            if (size < CAPACITY) {
                operations[size] = operation;
                firsts[size] = first;
                seconds[size] = second;
                thirds[size] = third;
                size++;
            }
        }

        void clear() {
            size = 0;
        }

        void copyFrom(Journal other) {
            System.arraycopy(other.operations, 0, operations, 0, CAPACITY);
            System.arraycopy(other.firsts, 0, firsts, 0, CAPACITY);
            System.arraycopy(other.seconds, 0, seconds, 0, CAPACITY);
            System.arraycopy(other.thirds, 0, thirds, 0, CAPACITY);
            size = other.size;
        }
    }

    /** A saved state. */
    static final class Slot {
        final World world = new World();
        final Journal journal = new Journal();
        boolean used;
    }

    /** The text and the reading of its items. */
    static final class Script {
        static final int LEAST_CODE = 32;
        static final int GREATEST_CODE = 126;
        private static final int CAPACITY = 200;
        private static final int MOST_ARGUMENTS = 3;
        private static final int UNREADABLE = -1;

        private final int[] codes = new int[CAPACITY];
        private final int[] arguments = new int[MOST_ARGUMENTS];
        private int argumentCount;
        int length;

        boolean append(int code) {
            if (length >= CAPACITY) {
                return false;
            }
            codes[length] = code;
            length++;
            return true;
        }

        int faultyItem() {
            int start = 0;
            for (int item = 0; item < CAPACITY && start < length; item++) {
                int end = endOfItem(start);
                if (end >= length || readItem(start, end) == UNREADABLE) {
                    return item;
                }
                start = end + 1;
            }
            return NONE;
        }

        /** The place of the semicolon, or the length of the text if none is left. */
        int endOfItem(int start) {
            for (int place = Math.max(start, 0); place < length; place++) {
                if (codes[place] == ';') {
                    return place;
                }
            }
            return length;
        }

        /** Leaves the arguments of the item behind. */
        int readItem(int start, int end) {
            for (int operation = 0; operation < Operation.KINDS; operation++) {
                if (hasForm(Operation.form(operation), start, end)) {
                    return operation;
                }
            }
            return UNREADABLE;
        }

        int argument(int k) {
            return k >= 0 && k < argumentCount ? arguments[k] : 0;
        }

        private boolean hasForm(String form, int start, int end) {
            argumentCount = 0;
            int place = start;
            for (int i = 0; i < form.length(); i++) {
                int width = matchSign(form.charAt(i), place, end);
                if (width == 0) {
                    return false;
                }
                place += width;
            }
            return place == end;
        }

        /** How many characters of the text stand for a sign of a form; 0 if they do not fit. */
        private int matchSign(char sign, int place, int end) {
            if (place < 0 || place >= end || place >= length) {
                return 0;
            }
            switch (sign) {
                case 'T':
                    return matchNumber(place, 1, MOST_THREADS - 1);
                case 'O':
                    return matchNumber(place, 1, OBJECTS - 1);
                case 'N':
                    return matchNumber(place, codes[place] != '0' && isDigit(place + 1) ? 2 : 1, 99);
                default:
                    return codes[place] == sign ? 1 : 0;
            }
        }

        private int matchNumber(int place, int digits, int greatest) {
            int number = 0;
            for (int i = 0; i < digits; i++) {
                if (!isDigit(place + i)) {
                    return 0;
                }
                number = 10 * number + codes[place + i] - '0';
            }
            if (number > greatest || argumentCount >= MOST_ARGUMENTS) {
                return 0;
            }
            arguments[argumentCount] = number;
            argumentCount++;
            return digits;
        }

        private boolean isDigit(int place) {
            return place >= 0 && place < length && codes[place] >= '0' && codes[place] <= '9';
        }
    }
}
