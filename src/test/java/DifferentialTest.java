import java.lang.reflect.Method;
import java.util.ArrayList;
import java.util.HashMap;
import java.util.List;
import java.util.Map;
import java.util.Random;
import java.util.TreeMap;
import java.util.TreeSet;

/** Random runs, always the same ones, on the program and on the Model: each answer must agree. */
final class DifferentialTest {
    private static final int RUNS = 600;
    private static final int CALLS = 300;
    private static final Map<String, Method> METHODS = new HashMap<>();

    private final Random random;
    private final LockSimulator simulator = new LockSimulator();
    private final Model model = new Model();
    private final List<String> told = new ArrayList<>();
    private final Map<String, TreeSet<Integer>> seen;
    private final int objects;
    private final int wildness;
    private int threads = 3;
    private boolean wrong = false;

    private DifferentialTest(long seed, Map<String, TreeSet<Integer>> seen) {
        random = new Random(seed);
        this.seen = seen;
        objects = 1 + random.nextInt(8);
        wildness = random.nextInt(3) == 0 ? 25 : 200;
    }

    private int call(String name, int... arguments) {
        int got;
        try {
            Object[] boxed = new Object[arguments.length];
            for (int i = 0; i < boxed.length; i++) {
                boxed[i] = arguments[i];
            }
            got = (Integer) METHODS.get(name).invoke(simulator, boxed);
        } catch (ReflectiveOperationException e) {
            throw new IllegalStateException(name + " after " + told, e.getCause());
        }
        int due = model.call(name, arguments);
        StringBuilder line = new StringBuilder(name).append(" (");
        for (int argument : arguments) {
            line.append(' ').append(argument);
        }
        told.add(line.append(" ) = ").append(got).toString());
        seen.computeIfAbsent(name, k -> new TreeSet<>()).add(got);
        if (got != due && !wrong) {
            wrong = true;
            System.out.println(String.join("\n", told));
            System.out.println("due is " + due);
        }
        return got;
    }

    /** Mostly a number from 0 to below the bound, now and then one outside. */
    private int below(int bound) {
        if (random.nextInt(wildness) != 0) {
            return random.nextInt(bound);
        }
        int[] odd = {-1, bound, Integer.MIN_VALUE, Integer.MAX_VALUE, -random.nextInt(100), random.nextInt(300)};
        return odd[random.nextInt(odd.length)];
    }

    private int thread() {
        return below(threads);
    }

    private int object() {
        return below(objects);
    }

    /** A thread and an object that it holds, if there is one. */
    private int[] heldPair() {
        for (int tries = 0; tries < 12; tries++) {
            int object = random.nextInt(objects);
            int owner = simulator.owner(object);
            if (owner >= 0) {
                return new int[] {owner, object};
            }
        }
        return new int[] {thread(), object()};
    }

    private void oneCall() {
        int[] pair = random.nextInt(4) == 0 ? new int[] {thread(), object()} : heldPair();
        int choice = random.nextInt(100);
        if (choice < 34) {
            call("enter", thread(), object());
        } else if (choice < 55) {
            call("exit", pair[0], pair[1]);
        } else if (choice < 63) {
            call("await", pair[0], pair[1], random.nextInt(3) == 0 ? 0 : below(random.nextBoolean() ? 5 : 51));
        } else if (choice < 67) {
            call("signal", pair[0], pair[1]);
        } else if (choice < 69) {
            call("signalAll", pair[0], pair[1]);
        } else if (choice < 73) {
            call("interrupt", thread());
        } else if (choice < 75) {
            call("die", thread());
        } else if (choice < 79) {
            call("start", thread());
        } else if (choice < 81) {
            call("hash", object());
        } else if (choice < 91) {
            call("tick", 1 + below(random.nextInt(4) == 0 ? 20 : 3));
        } else {
            otherCall(choice);
        }
    }

    private void otherCall(int choice) {
        int setting = below(8);
        if (choice < 93) {
            call("set", setting, random.nextInt(3) == 0 ? below(21) : below(3));
        } else if (choice < 94) {
            call("save", below(2));
        } else if (choice < 95 && random.nextInt(3) == 0) {
            call("restore", below(2));
        } else if (choice < 96) {
            script();
        } else if (choice < 97 && random.nextInt(8) == 0) {
            call("reset", 2 + below(5));
            threads = simulator.threads();
        } else if (choice < 98) {
            call("replayCost", setting, below(21));
        } else if (choice < 99 && random.nextInt(6) == 0) {
            call("bestValue", setting);
        }
        threads = simulator.threads();
    }

    private void script() {
        if (random.nextInt(3) != 0) {
            call("wipe");
        }
        int items = random.nextInt(8);
        for (int i = 0; i < items; i++) {
            StringBuilder item = new StringBuilder(item());
            if (random.nextInt(40) == 0) {
                item.setCharAt(random.nextInt(item.length()), (char) (32 + random.nextInt(95)));
            }
            if (random.nextInt(40) == 0) {
                item.deleteCharAt(random.nextInt(item.length()));
            }
            if (random.nextInt(40) == 0) {
                item.insert(random.nextInt(item.length() + 1), " 0;19".charAt(random.nextInt(5)));
            }
            for (int k = 0; k < item.length(); k++) {
                call("write", item.charAt(k));
            }
        }
        if (random.nextInt(10) == 0) {
            call("write", below(127));
        }
        call("fault");
        call("run");
    }

    private String item() {
        int t = random.nextInt(random.nextInt(4) == 0 ? 6 : threads);
        int o = random.nextInt(objects);
        int n = random.nextInt(random.nextInt(4) == 0 ? 100 : 12);
        String[] items = {
            "enter " + t + " " + o, "exit " + t + " " + o, "await " + t + " " + o + " " + n,
            "signal " + t + " " + o, "signalAll " + t + " " + o, "interrupt " + t, "die " + t,
            "start " + t, "hash " + o, "tick " + n};
        return items[random.nextInt(items.length)] + ";";
    }

    private void observe() {
        for (int t = 0; t < threads; t++) {
            call("threadState", t);
            call("threadAt", t);
            call("held", t);
            call("waitEnd", t);
        }
        for (int o = 0; o < 8; o++) {
            call("lockState", o);
            call("owner", o);
            call("count", o);
            call("bias", o);
            call("queued", o, random.nextInt(4));
            call("waiting", o, random.nextInt(4));
            for (int k = 0; k < 60; k += 1 + random.nextInt(7)) {
                call("describe", o, k);
            }
        }
        for (int i = 0; i < 9; i++) {
            call("type", i / 3, i % 3);
            call("counted", i);
            call("setting", below(8));
        }
        call("deadlocked");
        call("threads");
        call("time");
        call("monitors");
        call("cost");
        call("recorded");
    }

    private void wildObservation() {
        String[] single = {"threadState", "threadAt", "held", "waitEnd", "lockState", "owner", "count",
            "bias", "counted", "setting", "bestValue", "write", "save", "restore", "reset", "tick", "hash"};
        String[] pairs = {"queued", "waiting", "describe", "type", "replayCost", "set"};
        call(single[random.nextInt(single.length)], below(9));
        call(pairs[random.nextInt(pairs.length)], below(9), below(9));
        threads = simulator.threads();
    }

    private boolean run() {
        for (int setting = 0; setting < 8; setting++) {
            if (random.nextInt(2) == 0) {
                call("set", setting, random.nextInt(random.nextInt(3) == 0 ? 21 : 4));
            }
        }
        if (random.nextInt(3) != 0) {
            call("reset", 2 + random.nextInt(5));
            threads = simulator.threads();
        }
        for (int i = 0; i < CALLS && !wrong; i++) {
            oneCall();
            if (random.nextInt(60) == 0) {
                wildObservation();
            }
            if (random.nextInt(12) == 0) {
                observe();
            }
        }
        return !wrong;
    }

    public static void main(String[] args) {
        for (Method method : LockSimulator.class.getDeclaredMethods()) {
            METHODS.put(method.getName(), method);
        }
        int runs = args.length > 0 ? Integer.parseInt(args[0]) : RUNS;
        Map<String, TreeSet<Integer>> seen = new TreeMap<>();
        for (int seed = 0; seed < runs; seed++) {
            if (!new DifferentialTest(seed, seen).run()) {
                System.out.println("run " + seed + " differs");
                System.exit(1);
            }
        }
        if (args.length > 0) {
            seen.forEach((name, answers) -> System.out.println(name + " " + answers));
        }
        System.out.println(runs + " random runs agree with the model, " + seen.size() + " methods");
    }
}
