import java.io.IOException;
import java.lang.reflect.InvocationTargetException;
import java.lang.reflect.Method;
import java.nio.file.DirectoryStream;
import java.nio.file.Files;
import java.nio.file.Path;
import java.util.Arrays;
import java.util.Set;
import java.util.TreeSet;
import java.util.regex.Matcher;
import java.util.regex.Pattern;

/**
 * Runs the calls in src/test/runs, written as the document writes them. A file there holds runs; a
 * run begins with a line "# title" and a new simulator, and its other lines are calls, or one of
 * text, says, right and wrong with a text in quotes (README.md tells what they mean).
 */
final class RunsTest {
    private static final Path FOLDER = Path.of("src", "test", "runs");
    private static final int PROMISES = 41;
    private static final Pattern CALL =
        Pattern.compile("(?:(\\d+) x )?(\\w+)\\(([^)]*)\\)(?:\\s*=\\s*(-?\\d+))?");
    private static final Pattern QUOTED = Pattern.compile("(text|says|right|wrong)(?: (\\d))? \"(.*)\"");
    private static final Pattern NUMBERS = Pattern.compile("[\\d ]*\\d");

    private final Set<Integer> promises = new TreeSet<>();
    private String title = "";
    private LockSimulator simulator = new LockSimulator();
    private int wrong = 0;
    private int answers = 0;

    private void runFile(Path file) throws IOException {
        for (String line : Files.readAllLines(file)) {
            if (line.startsWith("# ")) {
                begin(line.substring(2));
            } else if (!line.isBlank()) {
                runLine(line);
            }
        }
    }

    private void begin(String newTitle) {
        title = newTitle;
        simulator = new LockSimulator();
        Matcher numbers = NUMBERS.matcher(title);
        if (numbers.lookingAt()) {
            for (String number : numbers.group().split(" ")) {
                promises.add(Integer.valueOf(number));
            }
        }
    }

    private void runLine(String line) {
        Matcher quoted = QUOTED.matcher(line);
        if (!quoted.matches()) {
            for (String call : line.split(";")) {
                runCalls(call.strip());
            }
            return;
        }
        String text = quoted.group(3);
        switch (quoted.group(1)) {
            case "text":
                write(text);
                break;
            case "says":
                compareDescription(Integer.parseInt(quoted.group(2)), text);
                break;
            case "right":
                write(text);
                compare("fault of '" + text + "'", simulator.fault(), LockSimulator.NONE);
                break;
            default:
                refuse(text, 0);
                refuse("die 0;hash 0;" + text, 2);
                break;
        }
    }

    private void write(String text) {
        simulator.wipe();
        for (int i = 0; i < text.length(); i++) {
            compare("write(" + (int) text.charAt(i) + ")", simulator.write(text.charAt(i)), i + 1);
        }
    }

    private void refuse(String text, int fault) {
        write(text);
        compare("fault of '" + text + "'", simulator.fault(), fault);
        compare("run of '" + text + "'", simulator.run(), LockSimulator.NOT_POSSIBLE);
        compare("recorded after '" + text + "'", simulator.recorded(), 0);
    }

    private void compareDescription(int object, String due) {
        StringBuilder got = new StringBuilder();
        for (int k = 0; k < 100 && simulator.describe(object, k) >= 0; k++) {
            got.append((char) simulator.describe(object, k));
        }
        answers++;
        if (!got.toString().equals(due)) {
            tell("the description of " + object + " is '" + got + "', due is '" + due + "'");
        }
        compare("describe behind the end", simulator.describe(object, due.length()), LockSimulator.NONE);
    }

    private void runCalls(String call) {
        Matcher parts = CALL.matcher(call);
        if (!parts.matches()) {
            tell("cannot read the call '" + call + "'");
            return;
        }
        int times = parts.group(1) == null ? 1 : Integer.parseInt(parts.group(1));
        for (int i = 0; i < times; i++) {
            int got = invoke(parts.group(2), parts.group(3).isBlank() ? new String[0] : parts.group(3).split(", "));
            if (parts.group(4) != null) {
                compare(call, got, Integer.parseInt(parts.group(4)));
            }
        }
    }

    private int invoke(String name, String[] arguments) {
        Class<?>[] types = new Class<?>[arguments.length];
        Arrays.fill(types, int.class);
        Object[] numbers = Arrays.stream(arguments).map(Integer::valueOf).toArray();
        try {
            Method method = LockSimulator.class.getMethod(name, types);
            return (Integer) method.invoke(simulator, numbers);
        } catch (InvocationTargetException e) {
            tell(name + " threw " + e.getCause());
        } catch (ReflectiveOperationException e) {
            tell("cannot call " + name + ": " + e);
        }
        return Integer.MIN_VALUE;
    }

    private void compare(String call, int got, int due) {
        answers++;
        if (got != due) {
            tell(call + " answered " + got + ", due is " + due);
        }
    }

    private void tell(String what) {
        wrong++;
        System.out.println(title + ": " + what);
    }

    private void finish() {
        for (int promise = 1; promise <= PROMISES; promise++) {
            if (!promises.contains(promise)) {
                wrong++;
                System.out.println("no run names promise " + promise);
            }
        }
        System.out.println(answers + " answers compared, " + wrong + " wrong");
        if (wrong != 0) {
            System.exit(1);
        }
    }

    public static void main(String[] args) throws IOException {
        RunsTest test = new RunsTest();
        try (DirectoryStream<Path> files = Files.newDirectoryStream(FOLDER, "*.txt")) {
            for (Path file : files) {
                test.runFile(file);
            }
        }
        test.finish();
    }
}
