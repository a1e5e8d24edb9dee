import java.io.IOException;
import java.nio.file.DirectoryStream;
import java.nio.file.Files;
import java.nio.file.Path;
import java.util.ArrayList;
import java.util.List;
import java.util.regex.Pattern;

/** A run from src/test/runs: a title and the lines below it, as README.md tells their form. */
record Run(String file, String title, List<String> lines) {
    static final Pattern CALL =
        Pattern.compile("(?:(\\d+) x )?(\\w+)\\(([^)]*)\\)(?:\\s*=\\s*(-?\\d+))?");
    static final Pattern QUOTED = Pattern.compile("(text|says|right|wrong)(?: (\\d))? \"(.*)\"");
    private static final Path FOLDER = Path.of("src", "test", "runs");

    static List<Run> all() throws IOException {
        List<Run> runs = new ArrayList<>();
        try (DirectoryStream<Path> files = Files.newDirectoryStream(FOLDER, "*.txt")) {
            for (Path file : files) {
                readFile(file, runs);
            }
        }
        return runs;
    }

    private static void readFile(Path file, List<Run> runs) throws IOException {
        Run run = null;
        for (String line : Files.readAllLines(file)) {
            if (line.startsWith("# ")) {
                run = new Run(file.getFileName().toString(), line.substring(2), new ArrayList<>());
                runs.add(run);
            } else if (!line.isBlank()) {
                if (run == null) {
                    throw new IOException(file + " does not begin with a title");
                }
                run.lines.add(line);
            }
        }
    }

    /** The calls of a line in their order; none if the line is a text in quotes. */
    static List<String> calls(String line) {
        List<String> calls = new ArrayList<>();
        if (!QUOTED.matcher(line).matches()) {
            for (String call : line.split(";")) {
                calls.add(call.strip());
            }
        }
        return calls;
    }
}
