import java.io.IOException;
import java.nio.file.Files;
import java.nio.file.Path;
import java.util.regex.Matcher;
import java.util.regex.Pattern;

/** The example in README.md: each of its calls must give the number that stands behind it, or the example tells a wrong story. */
public final class ReadmeTest {
    private static final Pattern BLOCK = Pattern.compile("```java\n(.*?)```", Pattern.DOTALL);
    private static final Pattern TEXT = Pattern.compile("String text = (\".*\");");
    private static final Pattern CALL = Pattern.compile("computer\\.(\\w+\\(.*?\\)); +// (-?\\d+).*");

    public static void main(String[] args) throws IOException {
        Matcher block = BLOCK.matcher(Files.readString(Path.of("README.md")));
        Script.due("README.md has an example", block.find() ? 1 : 0, 1);
        StringBuilder script = new StringBuilder();
        for (String line : block.group(1).split("\n")) {
            script.append(asScript(line.strip()));
        }
        Script.run("README.md", script.toString());
        Script.end();
    }

    /** A line of the example as one of a script; nothing for those that make the object and type the text. */
    private static String asScript(String line) {
        Matcher text = TEXT.matcher(line);
        if (text.matches()) {
            return text.group(1) + "\n";
        }
        Matcher call = CALL.matcher(line);
        if (call.matches()) {
            return call.group(1) + " = " + call.group(2) + "\n";
        }
        boolean frame = line.startsWith("FlightLegs ") || line.startsWith("for ") || line.startsWith("computer.type(") || line.equals("}");
        Script.due("README.md: a line without an answer: " + line, frame ? 0 : 1, 0);
        return "";
    }
}
