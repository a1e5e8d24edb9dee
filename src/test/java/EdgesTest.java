import java.io.IOException;
import java.nio.file.Files;
import java.nio.file.Path;
import java.util.ArrayList;
import java.util.HashSet;
import java.util.LinkedHashMap;
import java.util.List;
import java.util.Map;
import java.util.Set;
import java.util.regex.Matcher;
import java.util.regex.Pattern;

/**
 * Compares the names of the runs in the edges files with the document: each names a promise, the
 * terms or the beginning, and quotes a sentence that stands there; and each sentence there is quoted
 * by one. Each error of a method ends a run, and another run shows that it changed nothing. The runs
 * of the examples are the document's, call for call.
 */
final class EdgesTest {
    private static final Path DOCUMENT = Path.of("..", "shared", "DOC.md");
    private static final Pattern TITLE = Pattern.compile("(What it is|Terms|\\d+) \"(.*)\": (.+)");
    private static final Pattern HEADING = Pattern.compile("(?:Promise )?(What it is|Terms|\\d+).*");
    private static final Pattern METHOD = Pattern.compile("`int (\\w+)\\(");
    private static final Pattern CONSTANT = Pattern.compile("`(\\w+) = (-\\d)`");
    private static final String UNCHANGED = "A call that reports an error changes nothing";
    /** Headings inside of the terms, parameters of which nothing more is said, and what is free. */
    private static final Set<String> BARE = Set.of(
        "what later calls answer is free", "Threads and objects", "Settings", "Lock words", "Inflation", "Entering", "Releasing", "Ticks", "Dying",
        "Costs", "The record", "The text", "Errors", "the thread", "the object", "a thread", "an object");

    private static final Pattern EXAMPLE = Pattern.compile("(?m)^(\\d)\\. [^:]*: (.*)\\.$");

    private final Map<String, String> sections = new LinkedHashMap<>();
    private final Map<String, Integer> constants = new LinkedHashMap<>();
    private final Map<String, List<String>> quotes = new LinkedHashMap<>();
    private final Map<String, List<String>> examples = new LinkedHashMap<>();
    private final Set<String> ends = new HashSet<>();
    private final Set<String> shown = new HashSet<>();
    private int wrong = 0;
    private int sentences = 0;

    private void tell(String what) {
        wrong++;
        System.out.println(what);
    }

    private void readDocument() throws IOException {
        String document = Files.readString(DOCUMENT);
        Matcher example = EXAMPLE.matcher(document);
        while (example.find()) {
            examples.put("example " + example.group(1), Run.calls(example.group(2)));
        }
        for (String section : document.split("(?m)^## ")) {
            Matcher heading = HEADING.matcher(section.lines().findFirst().orElse(""));
            if (heading.matches()) {
                String name = heading.group(1);
                String body = section.substring(section.indexOf('\n') + 1);
                sections.put(name, name.equals("Terms") ? withoutExamples(body) : body);
                quotes.put(name, new ArrayList<>());
            }
        }
        Matcher constant = CONSTANT.matcher(sections.getOrDefault("Terms", ""));
        while (constant.find()) {
            constants.put(constant.group(1), Integer.valueOf(constant.group(2)));
        }
        if (sections.size() != 43 || constants.size() != 9 || examples.size() != 5) {
            tell("read " + sections.size() + " sections, " + constants.size() + " constants and "
                + examples.size() + " examples of the document");
        }
    }

    /** The examples are runs themselves, and what the interface says ahead of calls names no case. */
    private static String withoutExamples(String terms) {
        int examples = terms.indexOf("Examples:");
        int after = terms.indexOf("The constants:");
        int ahead = terms.indexOf("Ahead of the calls");
        return terms.substring(0, examples) + terms.substring(after, ahead);
    }

    private static String plain(String text) {
        return text.replace("```text", " ").replace("```", " ").replaceAll("\\s+", " ").strip();
    }

    private void readRun(Run run) {
        Matcher title = TITLE.matcher(run.title());
        if (!title.matches() || !sections.containsKey(title.group(1))) {
            tell(run.file() + " has a name without a promise and a sentence: " + run.title());
            return;
        }
        String name = title.group(1);
        String quote = title.group(2);
        if (!plain(sections.get(name)).contains(quote)) {
            tell("this does not stand in " + name + ": " + quote);
        }
        quotes.get(name).add(quote);
        String last = run.lines().isEmpty() ? "" : run.lines().get(run.lines().size() - 1);
        if (!last.startsWith("says ")) {
            readLastCall(run, name, last);
        }
        if (quote.equals(UNCHANGED)) {
            readRefusal(run, title.group(3));
        }
    }

    private void readLastCall(Run run, String name, String line) {
        List<String> calls = Run.calls(line);
        Matcher call = Run.CALL.matcher(calls.isEmpty() ? "" : calls.get(calls.size() - 1));
        if (!call.matches() || call.group(4) == null) {
            tell("no answer is due at the end of: " + run.title());
            return;
        }
        ends.add(name + " " + call.group(2) + " = " + call.group(4));
    }

    /** The note begins with the method and the error, and another call comes behind the refused one. */
    private void readRefusal(Run run, String note) {
        String[] words = note.split(", ");
        String refused = words.length < 2 ? "" : words[0] + " = " + constants.get(words[1]);
        List<String> calls = allCalls(run);
        for (int i = 0; i < calls.size() - 1; i++) {
            Matcher call = Run.CALL.matcher(calls.get(i));
            if (call.matches() && refused.equals(call.group(2) + " = " + call.group(4))) {
                shown.add(refused);
                return;
            }
        }
        tell("the refused call is missing or the last one: " + run.title());
    }

    private static List<String> allCalls(Run run) {
        List<String> calls = new ArrayList<>();
        run.lines().forEach(line -> calls.addAll(Run.calls(line)));
        return calls;
    }

    private void checkExample(Run run) {
        if (!allCalls(run).equals(examples.remove(run.title()))) {
            tell(run.title() + " is not as in the document");
        }
    }

    private void checkSentences() {
        sections.forEach((name, section) -> {
            for (String piece : section.replace("```text", "").replace("```", "").split("(?<=[.;:])\\s+|\\n+")) {
                String sentence = plain(piece).replaceAll("^- ", "");
                boolean leadsIn = sentence.endsWith(":") || sentence.isEmpty();
                sentence = sentence.replaceAll("[.;]$", "");
                if (!leadsIn && !BARE.contains(sentence)) {
                    checkQuoted(name, sentence);
                }
            }
        });
    }

    private void checkQuoted(String name, String sentence) {
        sentences++;
        for (String quote : quotes.get(name)) {
            if (sentence.contains(quote) || quote.contains(sentence)) {
                return;
            }
        }
        tell("no run quotes from " + name + ": " + sentence);
    }

    private void checkErrors() {
        sections.forEach((name, section) -> {
            Matcher method = METHOD.matcher(section);
            if (!method.find()) {
                return;
            }
            constants.forEach((constant, code) -> {
                if (section.matches("(?s).*\\b" + constant + "\\b.*")) {
                    checkError(name, method.group(1), code);
                }
            });
        });
    }

    private void checkError(String name, String method, int code) {
        // INTERRUPTED is await's alone, though waitEnd speaks of it.
        boolean answered = code != LockSimulator.INTERRUPTED || method.equals("await");
        if (answered && !ends.contains(name + " " + method + " = " + code)) {
            tell("no run of promise " + name + " ends with " + method + " = " + code);
        }
        boolean refused = code != LockSimulator.NONE && code != LockSimulator.INTERRUPTED;
        if (refused && !shown.contains(method + " = " + code)) {
            tell("no run shows that " + method + " = " + code + " changes nothing");
        }
    }

    public static void main(String[] args) throws IOException {
        EdgesTest test = new EdgesTest();
        test.readDocument();
        Set<String> titles = new HashSet<>();
        int runs = 0;
        for (Run run : Run.all()) {
            if (run.file().startsWith("edges-")) {
                test.readRun(run);
                runs++;
                if (!titles.add(run.title())) {
                    test.tell("two runs have this name: " + run.title());
                }
            } else if (run.file().equals("examples.txt")) {
                test.checkExample(run);
            }
        }
        test.examples.keySet().forEach(example -> test.tell("there is no run of " + example));
        test.checkSentences();
        test.checkErrors();
        System.out.println(runs + " runs quote " + test.sentences + " sentences, " + test.wrong + " faults");
        if (test.wrong != 0) {
            System.exit(1);
        }
    }
}
