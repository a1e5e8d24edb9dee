import java.lang.reflect.InvocationTargetException;
import java.lang.reflect.Method;
import java.util.ArrayList;
import java.util.List;
import java.util.regex.Matcher;
import java.util.regex.Pattern;

/**
 * Runs calls that are written as the document writes them, "enter(0, 1) = 1; exit(0, 1) = 0", on a
 * simulator and keeps what is wrong. Calls without "= ..." may answer anything.
 */
final class Check {
    private static final Pattern CALL = Pattern.compile("(\\w+)\\(([^)]*)\\)(?:\\s*=\\s*(-?\\d+))?");
    private static int wrong = 0;
    private static int answers = 0;

    private final String title;
    private final LockSimulator simulator = new LockSimulator();

    private Check(String title) {
        this.title = title;
    }

    /** A check on a new simulator. */
    static Check of(String title) {
        return new Check(title);
    }

    Check run(String calls) {
        for (String call : calls.split(";")) {
            if (!call.isBlank()) {
                runCall(call.strip());
            }
        }
        return this;
    }

    /** Replaces the text of the simulator. */
    Check text(String text) {
        simulator.wipe();
        for (int i = 0; i < text.length(); i++) {
            compare("write(" + (int) text.charAt(i) + ")", simulator.write(text.charAt(i)), i + 1);
        }
        return this;
    }

    /** Compares the whole description of an object, and that nothing comes behind it. */
    Check says(int object, String due) {
        StringBuilder got = new StringBuilder();
        for (int k = 0; k < 100 && simulator.describe(object, k) >= 0; k++) {
            got.append((char) simulator.describe(object, k));
        }
        answers++;
        if (!got.toString().equals(due)) {
            tell("the description of " + object + " is '" + got + "', due is '" + due + "'");
        }
        compare("describe behind the end", simulator.describe(object, due.length()), LockSimulator.NONE);
        return this;
    }

    private void runCall(String call) {
        Matcher parts = CALL.matcher(call);
        if (!parts.matches()) {
            tell("cannot read the call '" + call + "'");
            return;
        }
        int got = invoke(parts.group(1), argumentsOf(parts.group(2)));
        if (parts.group(3) != null) {
            compare(call, got, Integer.parseInt(parts.group(3)));
        }
    }

    private static Object[] argumentsOf(String list) {
        List<Object> arguments = new ArrayList<>();
        for (String argument : list.split(",")) {
            if (!argument.isBlank()) {
                arguments.add(Integer.valueOf(argument.strip()));
            }
        }
        return arguments.toArray();
    }

    private int invoke(String name, Object[] arguments) {
        Class<?>[] types = new Class<?>[arguments.length];
        java.util.Arrays.fill(types, int.class);
        try {
            Method method = LockSimulator.class.getMethod(name, types);
            return (Integer) method.invoke(simulator, arguments);
        } catch (InvocationTargetException e) {
            tell(name + " threw " + e.getCause());
            return Integer.MIN_VALUE;
        } catch (ReflectiveOperationException e) {
            tell("cannot call " + name + ": " + e);
            return Integer.MIN_VALUE;
        }
    }

    private void compare(String call, int got, int due) {
        answers++;
        if (got != due) {
            tell(call + " answered " + got + ", due is " + due);
        }
    }

    private void tell(String what) {
        wrong++;
        System.out.println(title + ": " + what);
    }

    /** Ends the test. */
    static void finish() {
        System.out.println(answers + " answers compared, " + wrong + " wrong");
        if (wrong != 0 || answers == 0) {
            System.exit(1);
        }
    }
}
