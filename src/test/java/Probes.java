import java.util.ArrayList;
import java.util.List;

/**
 * Calls that show whether two simulators are in the same state: what they answer now, and what they
 * answer when things go on. Each list is made on objects of its own, since it changes them.
 */
final class Probes {
    private static final int THREADS = 6;
    private static final int OBJECTS = 8;
    private static final List<List<Track.Call>> ALL = List.of(
        threads(), objects(), numbers(), replays(), text(), slot(0), slot(1), hashes(), later(), deaths(),
        waits(), entries());

    private Probes() {
    }

    /** The first call whose answer shows that the latest call of the track changed something, or null. */
    static String trace(Track track) {
        for (List<Track.Call> probe : ALL) {
            Track before = track.again(1);
            Track after = track.again(0);
            for (Track.Call call : probe) {
                int due = before.make(call);
                int got = after.make(call);
                if (got != due) {
                    return call.words() + " answered " + got + ", due is " + due + " as if without it";
                }
            }
        }
        return null;
    }

    private static void add(List<Track.Call> calls, String name, int... arguments) {
        calls.add(new Track.Call(name, arguments));
    }

    private static List<Track.Call> threads() {
        List<Track.Call> calls = new ArrayList<>();
        add(calls, "threads");
        add(calls, "deadlocked");
        for (int thread = 0; thread < THREADS; thread++) {
            add(calls, "threadState", thread);
            add(calls, "threadAt", thread);
            add(calls, "held", thread);
            add(calls, "waitEnd", thread);
        }
        return calls;
    }

    private static List<Track.Call> objects() {
        List<Track.Call> calls = new ArrayList<>();
        for (int object = 0; object < OBJECTS; object++) {
            add(calls, "lockState", object);
            add(calls, "owner", object);
            add(calls, "count", object);
            add(calls, "bias", object);
            for (int k = 0; k < THREADS; k++) {
                add(calls, "queued", object, k);
                add(calls, "waiting", object, k);
            }
        }
        return calls;
    }

    private static List<Track.Call> numbers() {
        List<Track.Call> calls = new ArrayList<>();
        for (String name : new String[] {"time", "monitors", "cost", "recorded"}) {
            add(calls, name);
        }
        for (int i = 0; i < 9; i++) {
            add(calls, "counted", i);
            add(calls, "type", i / 3, i % 3);
            add(calls, "setting", i);
        }
        return calls;
    }

    private static List<Track.Call> replays() {
        List<Track.Call> calls = new ArrayList<>();
        for (int setting = 0; setting < 8; setting++) {
            add(calls, "replayCost", setting, 1);
            add(calls, "bestValue", setting);
        }
        return calls;
    }

    private static List<Track.Call> text() {
        List<Track.Call> calls = new ArrayList<>();
        add(calls, "fault");
        add(calls, "run");
        calls.addAll(numbers());
        add(calls, "wipe");
        return calls;
    }

    private static List<Track.Call> slot(int slot) {
        List<Track.Call> calls = new ArrayList<>();
        add(calls, "restore", slot);
        calls.addAll(numbers());
        calls.addAll(threads());
        return calls;
    }

    private static List<Track.Call> hashes() {
        List<Track.Call> calls = new ArrayList<>();
        for (int object = OBJECTS - 1; object >= 0; object--) {
            add(calls, "hash", object);
            add(calls, "lockState", object);
        }
        return calls;
    }

    private static List<Track.Call> later() {
        List<Track.Call> calls = new ArrayList<>();
        for (int tick = 0; tick < 22; tick++) {
            add(calls, "tick", 1);
            add(calls, "cost");
        }
        add(calls, "tick", 20);
        add(calls, "tick", 20);
        calls.addAll(threads());
        return calls;
    }

    private static List<Track.Call> deaths() {
        List<Track.Call> calls = new ArrayList<>();
        for (int thread = 0; thread < THREADS; thread++) {
            add(calls, "die", thread);
            add(calls, "cost");
            add(calls, "start", thread);
        }
        calls.addAll(numbers());
        return calls;
    }

    private static List<Track.Call> waits() {
        List<Track.Call> calls = new ArrayList<>();
        for (int thread = 0; thread < THREADS; thread++) {
            for (int object = 0; object < OBJECTS; object++) {
                add(calls, "await", thread, object, 1);
            }
        }
        add(calls, "tick", 1);
        calls.addAll(threads());
        return calls;
    }

    private static List<Track.Call> entries() {
        List<Track.Call> calls = new ArrayList<>();
        for (int object = 0; object < OBJECTS; object++) {
            for (int thread = 0; thread < THREADS; thread++) {
                add(calls, "enter", thread, object);
                add(calls, "exit", thread, object);
            }
            add(calls, "tick", 1);
        }
        calls.addAll(numbers());
        return calls;
    }
}
