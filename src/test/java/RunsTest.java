import java.io.IOException;
import java.util.Set;
import java.util.TreeSet;
import java.util.regex.Matcher;
import java.util.regex.Pattern;

/**
 * Runs the calls in src/test/runs, written as the document writes them (README.md tells the form).
 * Behind each call for which an error is due, it also looks whether the call changed anything.
 */
final class RunsTest {
    private static final int PROMISES = 41;
    private static final int LONGEST_DESCRIPTION = 60;
    private static final Pattern NUMBERS = Pattern.compile("[\\d ]*\\d");

    private final Set<Integer> promises = new TreeSet<>();
    private String title = "";
    private Track track = new Track();
    private int wrong = 0;
    private int answers = 0;
    private int refusals = 0;

    private void run(Run run) {
        title = run.title();
        track = new Track();
        Matcher numbers = NUMBERS.matcher(title);
        if (numbers.lookingAt()) {
            for (String number : numbers.group().split(" ")) {
                promises.add(Integer.valueOf(number));
            }
        }
        try {
            for (String line : run.lines()) {
                runLine(line);
            }
        } catch (IllegalStateException e) {
            tell(e.getMessage());
        }
    }

    private void runLine(String line) {
        Matcher quoted = Run.QUOTED.matcher(line);
        if (!quoted.matches()) {
            for (String call : Run.calls(line)) {
                runCalls(call);
            }
            return;
        }
        String text = quoted.group(3);
        switch (quoted.group(1)) {
            case "text":
                write(text);
                break;
            case "says":
                compareDescription(Integer.parseInt(quoted.group(2)), text);
                break;
            case "right":
                track = new Track();
                write(text);
                compare("fault of '" + text + "'", track.make("fault"), LockSimulator.NONE);
                break;
            default:
                refuse(text, 0);
                refuse("die 0;hash 0;" + text, 2);
                break;
        }
    }

    private void write(String text) {
        track.make("wipe");
        for (int i = 0; i < text.length(); i++) {
            compare("write(" + (int) text.charAt(i) + ")", track.make("write", text.charAt(i)), i + 1);
        }
    }

    private void refuse(String text, int fault) {
        track = new Track();
        write(text);
        compare("fault of '" + text + "'", track.make("fault"), fault);
        compare("run of '" + text + "'", track.make("run"), LockSimulator.NOT_POSSIBLE);
        lookForTrace();
        compare("recorded after '" + text + "'", track.make("recorded"), 0);
    }

    private void compareDescription(int object, String due) {
        StringBuilder got = new StringBuilder();
        for (int k = 0; k < LONGEST_DESCRIPTION; k++) {
            int code = track.make("describe", object, k);
            if (code < 0) {
                compare("describe behind the end", code, LockSimulator.NONE);
                break;
            }
            got.append((char) code);
        }
        answers++;
        if (!got.toString().equals(due)) {
            tell("the description of " + object + " is '" + got + "', due is '" + due + "'");
        }
    }

    private void runCalls(String call) {
        Matcher parts = Run.CALL.matcher(call);
        if (!parts.matches()) {
            tell("cannot read the call '" + call + "'");
            return;
        }
        String[] words = parts.group(3).isBlank() ? new String[0] : parts.group(3).split(", ");
        int[] arguments = new int[words.length];
        for (int i = 0; i < words.length; i++) {
            arguments[i] = Integer.parseInt(words[i]);
        }
        int times = parts.group(1) == null ? 1 : Integer.parseInt(parts.group(1));
        for (int i = 0; i < times; i++) {
            int got = track.make(parts.group(2), arguments);
            if (parts.group(4) != null) {
                int due = Integer.parseInt(parts.group(4));
                compare(call, got, due);
                if (due < 0 && due != LockSimulator.NONE && due != LockSimulator.INTERRUPTED) {
                    lookForTrace();
                }
            }
        }
    }

    private void lookForTrace() {
        refusals++;
        String trace = Probes.trace(track);
        if (trace != null) {
            tell(track.last().words() + " is refused but changes something: " + trace);
        }
    }

    private void compare(String call, int got, int due) {
        answers++;
        if (got != due) {
            tell(call + " answered " + got + ", due is " + due);
        }
    }

    private void tell(String what) {
        wrong++;
        System.out.println(title + ": " + what);
    }

    private void finish(int runs) {
        for (int promise = 1; promise <= PROMISES; promise++) {
            if (!promises.contains(promise)) {
                wrong++;
                System.out.println("no run names promise " + promise);
            }
        }
        System.out.println(runs + " runs, " + answers + " answers compared, " + refusals
            + " refused calls looked behind, " + wrong + " wrong");
        if (wrong != 0) {
            System.exit(1);
        }
    }

    public static void main(String[] args) throws IOException {
        RunsTest test = new RunsTest();
        int runs = 0;
        for (Run run : Run.all()) {
            test.run(run);
            runs++;
        }
        test.finish(runs);
    }
}
