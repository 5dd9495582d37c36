import java.nio.file.Files;
import java.nio.file.Path;
import java.util.regex.Matcher;
import java.util.regex.Pattern;

/** The example of README.md answers what stands behind its calls. */
public final class ReadmeTest {
    private static final Pattern CALL = Pattern.compile("log\\.(\\w+\\(.*?\\)); +// (-?\\d+)(: .*)?");

    public static void main(String[] args) throws Exception {
        String text = Files.readString(Path.of("README.md"));
        String[] lines = example(text).split("\n");
        Due.is(0, "README's example begins with a new object", lines[0].indexOf("LogsAfloat log = new LogsAfloat();"), 0);
        LogsAfloat log = new LogsAfloat();
        for (int i = 1; i < lines.length; i++) {
            Matcher m = CALL.matcher(lines[i]);
            boolean tells = m.matches();
            Due.yes("README's example has a line without its answer: " + lines[i], tells);
            if (tells) {
                Due.is(0, "README's " + m.group(1), Edge.answer(log, m.group(1)), Long.parseLong(m.group(2)));
            }
        }
        Due.end();
    }

    private static String example(String text) {
        Matcher m = Pattern.compile("(?s)```java\n(.*?)\n```").matcher(text);
        boolean found = m.find();
        Due.yes("README has no example", found);
        return found ? m.group(1) : "";
    }
}
