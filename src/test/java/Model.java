import java.util.ArrayList;
import java.util.Arrays;
import java.util.List;
import java.util.regex.Matcher;
import java.util.regex.Pattern;

/**
 * The document a second time, written for plainness and without care for room: errors are thrown,
 * and a call that is refused goes back to a copy of the state that was made before it. It is what
 * DifferentialTest compares the program with.
 */
final class Model {
    private static final int[][] RANGES = {
        {0, 1, 1}, {0, 1, 0}, {1, 20, 4}, {1, 20, 8}, {1, 15, 3}, {1, 20, 5}, {1, 8, 4}, {0, 1, 0}};
    private static final int[] PRICES = {2, 20, 10, 5, 30, 5, 3, 0, 0};
    private static final String[] FORMS = {
        "enter ([0-5]) ([0-7])", "exit ([0-5]) ([0-7])", "await ([0-5]) ([0-7]) (0|[1-9][0-9]?)",
        "signal ([0-5]) ([0-7])", "signalAll ([0-5]) ([0-7])", "interrupt ([0-5])", "die ([0-5])",
        "start ([0-5])", "hash ([0-7])", "tick (0|[1-9][0-9]?)"};
    static final String[] NAMES = {
        "enter", "exit", "await", "signal", "signalAll", "interrupt", "die", "start", "hash", "tick"};

    /** An error that the document names. */
    private static final class Refused extends RuntimeException {
        private static final long serialVersionUID = 1L;
        private final int code;

        private Refused(int code) {
            super(null, null, false, false);
            this.code = code;
        }
    }

    private static final class Obj {
        String state;
        int owner = -1;
        int count = 0;
        int bias = -1;
        int epoch = 0;
        boolean abandoned = false;
        Integer hash = null;
        int idleSince = 0;
        List<Integer> queue = new ArrayList<>();
        List<Integer> waiters = new ArrayList<>();

        Obj copy() {
            Obj o = new Obj();
            o.state = state;
            o.owner = owner;
            o.count = count;
            o.bias = bias;
            o.epoch = epoch;
            o.abandoned = abandoned;
            o.hash = hash;
            o.idleSince = idleSince;
            o.queue = new ArrayList<>(queue);
            o.waiters = new ArrayList<>(waiters);
            return o;
        }

        boolean is(String word) {
            return state.equals(word);
        }
    }

    private static final class State {
        int threads = 3;
        int[] settings = new int[8];
        int time = 0;
        int[] counts = new int[9];
        int hashes = 0;
        String[] threadState = new String[6];
        boolean[] interrupted = new boolean[6];
        Integer[] deadline = new Integer[6];
        int[] kept = new int[6];
        int[] waitEnd = new int[6];
        Obj[] objects = new Obj[8];
        int[] epoch = new int[3];
        int[] revocations = new int[3];
        boolean[] biasable = {true, true, true};
        List<int[]> record = new ArrayList<>();

        State copy() {
            State s = new State();
            s.threads = threads;
            s.settings = settings.clone();
            s.time = time;
            s.counts = counts.clone();
            s.hashes = hashes;
            s.threadState = threadState.clone();
            s.interrupted = interrupted.clone();
            s.deadline = deadline.clone();
            s.kept = kept.clone();
            s.waitEnd = waitEnd.clone();
            for (int o = 0; o < 8; o++) {
                s.objects[o] = objects[o].copy();
            }
            s.epoch = epoch.clone();
            s.revocations = revocations.clone();
            s.biasable = biasable.clone();
            s.record = new ArrayList<>(record);
            return s;
        }
    }

    private State s;
    private final State[] saved = new State[2];
    private final StringBuilder text = new StringBuilder();

    Model() {
        int[] first = new int[8];
        for (int i = 0; i < 8; i++) {
            first[i] = RANGES[i][2];
        }
        s = fresh(3, first);
    }

    private static State fresh(int threads, int[] settings) {
        State s = new State();
        s.threads = threads;
        s.settings = settings.clone();
        Arrays.fill(s.threadState, "running");
        Arrays.fill(s.waitEnd, -8);
        for (int o = 0; o < 8; o++) {
            s.objects[o] = new Obj();
            s.objects[o].state = settings[0] == 1 ? "biasable" : "neutral";
        }
        return s;
    }

    int call(String name, int... a) {
        // Only operations may have begun to change the state when they are refused.
        State before = Arrays.asList(NAMES).contains(name) ? s.copy() : s;
        try {
            return answer(name, a);
        } catch (Refused refused) {
            s = before;
            return refused.code;
        }
    }

    private int answer(String name, int[] a) {
        int operation = Arrays.asList(NAMES).indexOf(name);
        if (operation >= 0) {
            int result = operate(operation, a);
            if (s.record.size() < 60) {
                int[] entry = {operation, a[0], a.length > 1 ? a[1] : 0, a.length > 2 ? a[2] : 0};
                s.record.add(entry);
            }
            return result;
        }
        switch (name) {
            case "reset": return reset(a[0]);
            case "set": return set(a[0], a[1]);
            case "setting": need(a[0] >= 0 && a[0] < 8, -3); return s.settings[a[0]];
            case "threads": return s.threads;
            case "threadState": thread(a[0]); return stateNumber(a[0]) + (s.interrupted[a[0]] ? 10 : 0);
            case "threadAt": thread(a[0]); return placeOf(a[0]);
            case "held": thread(a[0]); return heldBy(a[0]);
            case "waitEnd": thread(a[0]); return s.waitEnd[a[0]];
            case "deadlocked": return deadlocked();
            case "lockState": return lockNumber(object(a[0])) + (object(a[0]).abandoned ? 10 : 0);
            case "owner": return object(a[0]).count > 0 ? object(a[0]).owner : -8;
            case "count": return object(a[0]).count;
            case "bias": return bias(a[0]);
            case "queued": return member(object(a[0]).queue, a[1]);
            case "waiting": return member(object(a[0]).waiters, a[1]);
            case "describe": return letter(a[0], a[1]);
            case "type": return type(a[0], a[1]);
            case "time": return s.time;
            case "monitors": return monitors();
            case "counted": need(a[0] >= 0 && a[0] < 9, -3); return s.counts[a[0]];
            case "cost": return cost();
            case "recorded": return s.record.size();
            case "replayCost": return replayCost(a[0], a[1]);
            case "bestValue": return bestValue(a[0]);
            case "write": return write(a[0]);
            case "wipe": return wipe();
            case "fault": return fault();
            case "run": return run();
            case "save": need(a[0] == 0 || a[0] == 1, -3); saved[a[0]] = s.copy(); return s.time;
            case "restore": return restore(a[0]);
            default: throw new IllegalStateException(name);
        }
    }

    private static void need(boolean condition, int code) {
        if (!condition) {
            throw new Refused(code);
        }
    }

    private void thread(int t) {
        need(t >= 0 && t < s.threads, -1);
    }

    private Obj object(int o) {
        need(o >= 0 && o < 8, -2);
        return s.objects[o];
    }

    // ---- The world.

    private int reset(int threads) {
        need(threads >= 2 && threads <= 6, -3);
        int previous = s.threads;
        s = fresh(threads, s.settings);
        return previous;
    }

    private static boolean inRange(int setting, int value) {
        return setting >= 0 && setting < 8 && value >= RANGES[setting][0] && value <= RANGES[setting][1];
    }

    private int set(int setting, int value) {
        need(inRange(setting, value), -3);
        need(setting != 6 || value >= monitors(), -7);
        int previous = s.settings[setting];
        s.settings[setting] = value;
        return previous;
    }

    // ---- Operations.

    private int operate(int operation, int[] a) {
        switch (operation) {
            case 0: return enter(a[0], a[1]);
            case 1: return exit(a[0], a[1]);
            case 2: return await(a[0], a[1], a[2]);
            case 3: return signal(a[0], a[1]);
            case 4: return signalAll(a[0], a[1]);
            case 5: return interrupt(a[0]);
            case 6: return die(a[0]);
            case 7: return start(a[0]);
            case 8: return hash(a[0]);
            default: return tick(a[0]);
        }
    }

    private boolean valid(int o) {
        return s.objects[o].epoch == s.epoch[o % 3];
    }

    private int enter(int t, int o) {
        thread(t);
        Obj x = object(o);
        need(s.threadState[t].equals("running"), -4);
        if (x.count > 0 && x.owner == t) {
            if (x.is("thin") && x.count >= s.settings[4]) {
                inflate(o);
            }
            x.count++;
            return 4;
        }
        boolean recovery = x.abandoned && x.count == 0;
        int result = enterNew(t, o);
        if (recovery) {
            x.abandoned = false;
            s.counts[8]++;
            return result + 10;
        }
        return result;
    }

    private int enterNew(int t, int o) {
        Obj x = s.objects[o];
        if (x.is("biasable")) {
            return biasTo(t, o);
        }
        if (x.is("biased") && x.count == 0 && x.bias == t && valid(o)) {
            x.owner = t;
            x.count = 1;
            return 1;
        }
        if (x.is("biased") && x.count == 0 && !valid(o)) {
            return biasTo(t, o);
        }
        if (x.is("biased")) {
            revoke(o);
            if (x.is("biased") && x.count == 0 && !valid(o)) {
                return biasTo(t, o);
            }
        }
        if (x.is("neutral")) {
            x.state = "thin";
            x.owner = t;
            x.count = 1;
            s.counts[0]++;
            return 2;
        }
        if (x.is("inflated") && x.count == 0) {
            x.owner = t;
            x.count = 1;
            s.counts[0]++;
            s.counts[7] += x.queue.isEmpty() ? 0 : 1;
            return 3;
        }
        if (x.is("thin")) {
            inflate(o);
        }
        x.queue.add(t);
        s.threadState[t] = "blocked";
        s.kept[t] = 1;
        s.counts[4]++;
        return 0;
    }

    private int biasTo(int t, int o) {
        Obj x = s.objects[o];
        x.state = "biased";
        x.bias = t;
        x.epoch = s.epoch[o % 3];
        x.owner = t;
        x.count = 1;
        s.counts[0]++;
        return 1;
    }

    private void revoke(int o) {
        int c = o % 3;
        s.revocations[c]++;
        s.counts[1]++;
        Obj x = s.objects[o];
        if (s.revocations[c] >= s.settings[3]) {
            s.biasable[c] = false;
            for (int p = 0; p < 8; p++) {
                Obj y = s.objects[p];
                if (p % 3 == c && (y.is("biasable") || y.is("biased"))) {
                    y.state = y.count > 0 ? "thin" : "neutral";
                }
            }
        } else if (s.revocations[c] == s.settings[2]) {
            s.epoch[c]++;
            for (int p = 0; p < 8; p++) {
                if (p % 3 == c && s.objects[p].is("biased") && s.objects[p].count > 0) {
                    s.objects[p].epoch = s.epoch[c];
                }
            }
            if (x.count > 0) {
                x.state = "thin";
            }
        } else {
            x.state = x.count > 0 ? "thin" : "neutral";
        }
    }

    private int monitors() {
        int used = 0;
        for (Obj x : s.objects) {
            used += x.is("inflated") ? 1 : 0;
        }
        return used;
    }

    private static boolean idle(Obj x) {
        return x.is("inflated") && x.count == 0 && x.queue.isEmpty() && x.waiters.isEmpty();
    }

    private void inflate(int o) {
        if (monitors() == s.settings[6]) {
            int victim = -1;
            for (int p = 7; p >= 0; p--) {
                if (idle(s.objects[p])
                    && (victim < 0 || s.objects[p].idleSince <= s.objects[victim].idleSince)) {
                    victim = p;
                }
            }
            need(victim >= 0, -6);
            s.objects[victim].state = "neutral";
            s.counts[3]++;
        }
        s.objects[o].state = "inflated";
        s.counts[2]++;
    }

    private void release(int o) {
        Obj x = s.objects[o];
        x.count = 0;
        if (x.is("thin")) {
            x.state = "neutral";
            s.counts[0]++;
        }
        if (x.is("inflated")) {
            x.idleSince = s.time;
            if (!x.queue.isEmpty() && s.settings[1] == 1) {
                acquire(o);
                s.counts[6]++;
            }
        }
    }

    private void acquire(int o) {
        Obj x = s.objects[o];
        int t = x.queue.remove(0);
        s.threadState[t] = "running";
        x.owner = t;
        x.count = s.kept[t];
        if (x.abandoned) {
            x.abandoned = false;
            s.counts[8]++;
        }
    }

    private void ownerOnly(int t, int o) {
        need(s.threadState[t].equals("running"), -4);
        need(s.objects[o].count > 0 && s.objects[o].owner == t, -5);
    }

    private int exit(int t, int o) {
        thread(t);
        Obj x = object(o);
        ownerOnly(t, o);
        x.count--;
        if (x.count > 0) {
            return x.count;
        }
        release(o);
        return 0;
    }

    private int await(int t, int o, int limit) {
        thread(t);
        Obj x = object(o);
        need(limit >= 0 && limit <= 50, -3);
        ownerOnly(t, o);
        if (s.interrupted[t]) {
            s.interrupted[t] = false;
            s.waitEnd[t] = 3;
            return -9;
        }
        if (!x.is("inflated")) {
            inflate(o);
        }
        int kept = x.count;
        s.kept[t] = kept;
        s.threadState[t] = "waiting";
        s.deadline[t] = limit == 0 ? null : Integer.valueOf(s.time + limit);
        x.waiters.add(t);
        release(o);
        return kept;
    }

    private void toQueue(int t, int o, int how, boolean front) {
        Obj x = s.objects[o];
        x.waiters.remove(Integer.valueOf(t));
        x.queue.add(front ? 0 : x.queue.size(), t);
        s.threadState[t] = "blocked";
        s.waitEnd[t] = how;
    }

    private int signal(int t, int o) {
        thread(t);
        Obj x = object(o);
        ownerOnly(t, o);
        if (x.waiters.isEmpty()) {
            return -8;
        }
        int first = x.waiters.get(0);
        toQueue(first, o, 1, s.settings[7] == 1);
        return first;
    }

    private int signalAll(int t, int o) {
        thread(t);
        Obj x = object(o);
        ownerOnly(t, o);
        List<Integer> all = new ArrayList<>(x.waiters);
        for (int u : all) {
            toQueue(u, o, 1, false);
        }
        return all.size();
    }

    private int interrupt(int t) {
        thread(t);
        need(!s.threadState[t].equals("dead"), -7);
        if (s.threadState[t].equals("waiting")) {
            toQueue(t, placeOf(t), 3, false);
            return 1;
        }
        s.interrupted[t] = true;
        return 0;
    }

    private int die(int t) {
        thread(t);
        need(!s.threadState[t].equals("dead"), -7);
        for (Obj x : s.objects) {
            x.queue.remove(Integer.valueOf(t));
            x.waiters.remove(Integer.valueOf(t));
        }
        s.threadState[t] = "dead";
        s.interrupted[t] = false;
        int held = heldBy(t);
        for (int o = 0; o < 8; o++) {
            if ((held >> o & 1) == 1) {
                s.objects[o].abandoned = true;
                release(o);
            }
        }
        return Integer.bitCount(held);
    }

    private int start(int t) {
        thread(t);
        need(s.threadState[t].equals("dead"), -7);
        s.threadState[t] = "running";
        int alive = 0;
        for (int u = 0; u < s.threads; u++) {
            alive += s.threadState[u].equals("dead") ? 0 : 1;
        }
        return alive;
    }

    private int hash(int o) {
        Obj x = object(o);
        if (x.hash == null) {
            if (x.is("biasable") || x.is("biased") && x.count == 0) {
                x.state = "neutral";
            } else if (x.is("biased") || x.is("thin")) {
                inflate(o);
            }
            x.hash = (7919 * (s.hashes + 1) + 13 * o) % 1000;
            s.hashes++;
        }
        return x.hash;
    }

    private int tick(int ticks) {
        need(ticks >= 1 && ticks <= 20, -3);
        int wakeups = 0;
        for (int i = 0; i < ticks; i++) {
            s.time++;
            for (int t = 0; t < s.threads; t++) {
                if (s.threadState[t].equals("waiting") && s.deadline[t] != null && s.deadline[t] <= s.time) {
                    toQueue(t, placeOf(t), 2, false);
                }
            }
            for (int o = 0; o < 8; o++) {
                Obj x = s.objects[o];
                if (x.is("inflated") && x.count == 0 && !x.queue.isEmpty()) {
                    acquire(o);
                    s.counts[5]++;
                    wakeups++;
                }
            }
            for (Obj x : s.objects) {
                if (idle(x) && s.time - x.idleSince >= s.settings[5]) {
                    x.state = "neutral";
                    s.counts[3]++;
                }
            }
        }
        return wakeups;
    }

    // ---- Threads and objects.

    private int stateNumber(int t) {
        return Arrays.asList("running", "blocked", "waiting", "dead").indexOf(s.threadState[t]);
    }

    private int placeOf(int t) {
        for (int o = 0; o < 8; o++) {
            if (s.objects[o].queue.contains(t) || s.objects[o].waiters.contains(t)) {
                return o;
            }
        }
        return -8;
    }

    private int heldBy(int t) {
        int set = 0;
        for (int o = 0; o < 8; o++) {
            set |= s.objects[o].count > 0 && s.objects[o].owner == t ? 1 << o : 0;
        }
        return set;
    }

    private int deadlocked() {
        boolean[][] waits = new boolean[6][6];
        for (Obj x : s.objects) {
            for (int t : x.queue) {
                if (x.count > 0) {
                    waits[t][x.owner] = true;
                }
            }
        }
        for (int k = 0; k < 6; k++) {
            for (int i = 0; i < 6; i++) {
                for (int j = 0; j < 6; j++) {
                    waits[i][j] |= waits[i][k] && waits[k][j];
                }
            }
        }
        int set = 0;
        for (int t = 0; t < 6; t++) {
            set |= waits[t][t] ? 1 << t : 0;
        }
        return set;
    }

    private static int lockNumber(Obj x) {
        return Arrays.asList("neutral", "biasable", "biased", "thin", "inflated").indexOf(x.state);
    }

    private int bias(int o) {
        Obj x = object(o);
        if (!x.is("biased")) {
            return -8;
        }
        return x.bias + (valid(o) ? 0 : 10);
    }

    private static int member(List<Integer> list, int k) {
        need(k >= 0, -3);
        return k < list.size() ? list.get(k) : -8;
    }

    private String description(int o) {
        Obj x = s.objects[o];
        List<String> words = new ArrayList<>();
        words.add(x.state);
        if (x.is("biased")) {
            words.add("to " + x.bias);
            if (!valid(o)) {
                words.add("old");
            }
        }
        if (x.count > 0) {
            words.add("by " + x.owner + " x" + x.count);
        }
        if (x.is("inflated") && !x.queue.isEmpty()) {
            words.add("queue " + digits(x.queue));
        }
        if (x.is("inflated") && !x.waiters.isEmpty()) {
            words.add("wait " + digits(x.waiters));
        }
        if (x.hash != null) {
            words.add("#" + x.hash);
        }
        if (x.abandoned) {
            words.add("abandoned");
        }
        return String.join(" ", words);
    }

    private static String digits(List<Integer> list) {
        return list.toString().replaceAll("[^0-9]", "");
    }

    private int letter(int o, int k) {
        object(o);
        need(k >= 0, -3);
        String all = description(o);
        return k < all.length() ? all.charAt(k) : -8;
    }

    // ---- Classes, counts and the record.

    private int type(int c, int what) {
        need(c >= 0 && c < 3 && what >= 0 && what < 3, -3);
        int[] numbers = {s.epoch[c], s.revocations[c], s.biasable[c] ? 1 : 0};
        return numbers[what];
    }

    private int cost() {
        int sum = 0;
        for (int i = 0; i < 9; i++) {
            sum += PRICES[i] * s.counts[i];
        }
        return sum;
    }

    private int replayCost(int setting, int value) {
        need(inRange(setting, value), -3);
        Model other = new Model();
        int[] settings = s.settings.clone();
        settings[setting] = value;
        other.s = fresh(s.threads, settings);
        for (int[] entry : s.record) {
            other.call(NAMES[entry[0]], entry[1], entry[2], entry[3]);
        }
        return other.cost();
    }

    private int bestValue(int setting) {
        need(setting >= 0 && setting < 8, -3);
        int best = RANGES[setting][1];
        for (int value = RANGES[setting][1]; value >= RANGES[setting][0]; value--) {
            best = replayCost(setting, value) <= replayCost(setting, best) ? value : best;
        }
        return best;
    }

    // ---- The text and saved states.

    private int write(int code) {
        need(code >= 32 && code <= 126, -3);
        need(text.length() < 200, -6);
        text.append((char) code);
        return text.length();
    }

    private int wipe() {
        int length = text.length();
        text.setLength(0);
        return length;
    }

    private static int[] read(String item) {
        for (int operation = 0; operation < FORMS.length; operation++) {
            Matcher parts = Pattern.compile(FORMS[operation]).matcher(item);
            if (parts.matches()) {
                int[] read = new int[1 + parts.groupCount()];
                read[0] = operation;
                for (int i = 1; i < read.length; i++) {
                    read[i] = Integer.parseInt(parts.group(i));
                }
                return read;
            }
        }
        return null;
    }

    private int fault() {
        String[] items = text.toString().split(";", -1);
        for (int i = 0; i < items.length - 1; i++) {
            if (read(items[i]) == null) {
                return i;
            }
        }
        return items[items.length - 1].isEmpty() ? -8 : items.length - 1;
    }

    private int run() {
        need(fault() == -8, -7);
        int errors = 0;
        for (String item : text.toString().split(";")) {
            int[] read = item.isEmpty() ? null : read(item);
            if (read != null) {
                int result = call(NAMES[read[0]], Arrays.copyOfRange(read, 1, read.length));
                errors += result < 0 && result != -8 && result != -9 ? 1 : 0;
            }
        }
        return errors;
    }

    private int restore(int slot) {
        need(slot == 0 || slot == 1, -3);
        need(saved[slot] != null, -7);
        s = saved[slot].copy();
        return s.time;
    }
}
