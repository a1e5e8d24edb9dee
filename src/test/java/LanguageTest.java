import java.io.IOException;
import java.nio.file.Files;
import java.nio.file.Path;
import java.util.regex.Matcher;
import java.util.regex.Pattern;

/** Looks for what LANGUAGE.md forbids and a text search can find in the program. */
final class LanguageTest {
    private static final Path PROGRAM = Path.of("src", "main", "java", "LockSimulator.java");
    private static final String[] FORBIDDEN = {
        "\\b(throw|throws|try|catch|finally|synchronized|assert|native|volatile|transient)\\b", "->", "::",
        "@\\w+", "\\bpackage\\b", "\\bimport\\b(?! java\\.util\\.Arrays;)", "\\bObject\\b", "\\b(var|goto)\\b",
        "\\b(equals|hashCode|toString)\\s*\\(", "\\w+Exact\\b", "\\bSystem\\.(?!arraycopy\\b)",
        "\\bArrays\\.(?!(copyOf|copyOfRange|fill)\\b)", "\\bMath\\.(?!(max|min|abs|floorMod|floorDiv)\\b)",
        "\\b(Random|Thread|Runtime|Scanner|Map|Set|Stream|Optional|Collections|Deque)\\b", "\\[\\]\\[\\]\\[\\]",
        "\"\\s*\\+|\\+\\s*\"", "\\bwhile\\s*\\(true\\)", "for\\s*\\(;", "\\bstatic\\s*\\{",
        "\\bstatic (?!final |int |boolean |String )", "\\bprotected\\b"};

    private static int wrong = 0;

    private static void tell(String what) {
        wrong++;
        System.out.println(what);
    }

    private static String withoutComments(String source) {
        return source.replaceAll("(?s)/\\*.*?\\*/", "").replaceAll("//[^\n]*", "");
    }

    private static void searchForbidden(String code) {
        for (String forbidden : FORBIDDEN) {
            Matcher found = Pattern.compile(forbidden).matcher(code);
            while (found.find()) {
                tell("forbidden: " + found.group());
            }
        }
    }

    public static void main(String[] args) throws IOException {
        String source = Files.readString(PROGRAM);
        searchForbidden(withoutComments(source));
        if (!source.chars().allMatch(sign -> sign == '\n' || sign >= 32 && sign <= 126)) {
            tell("a sign outside of ASCII");
        }
        System.out.println(FORBIDDEN.length + " searches, " + wrong + " faults against the language's rules");
        if (wrong != 0) {
            System.exit(1);
        }
    }
}
