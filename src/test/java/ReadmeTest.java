import java.io.IOException;
import java.nio.file.Files;
import java.nio.file.Path;
import java.util.regex.Matcher;
import java.util.regex.Pattern;

/** The example of README.md answers what its comments say; a line that cannot be checked is a fault. Run in the project. */
public final class ReadmeTest {
    static final Pattern EXAMPLE = Pattern.compile("```java\n(.*?)```", Pattern.DOTALL);
    static final Pattern TYPING = Pattern.compile(
            "for \\(char sign : \"([^\"]+)\"\\.toCharArray\\(\\)\\) \\{\\s+sheets\\.append\\(sign\\);\\s+\\}");
    static final Pattern CALL = Pattern.compile("sheets\\.(\\w+\\([^)]*\\)); +// (?:throws (\\w+)|(-?\\d+))(?: \\(.*\\))?");

    static String asRun(String example) {
        StringBuilder run = new StringBuilder();
        for (String line : TYPING.matcher(example).replaceAll("type $1").split("\n")) {
            run.append(line.startsWith("type ") ? line : callOf(line)).append(';');
        }
        return run.toString();
    }

    static String callOf(String line) {
        Matcher m = CALL.matcher(line);
        if (!m.matches()) {
            throw new IllegalStateException("README.md has a line without an answer: " + line);
        }
        return m.group(1) + (m.group(2) == null ? " = " + m.group(3) : " ! " + dueOf(m.group(2)));
    }

    static String dueOf(String exception) {
        switch (exception) {
            case "IndexOutOfBoundsException": return "index";
            case "IllegalArgumentException": return "argument";
            default: return "state";
        }
    }

    public static void main(String[] args) throws IOException {
        Sentences sentences = new Sentences();
        String first = "CueSheets sheets = new CueSheets();\n";
        Matcher m = EXAMPLE.matcher(Files.readString(Path.of("README.md")));
        if (!m.find() || !m.group(1).startsWith(first)) {
            throw new IllegalStateException("README.md has no example");
        }
        sentences.holds("README.md: the example", asRun(m.group(1).substring(first.length())));
        sentences.end();
    }
}
