import java.nio.file.Files;
import java.nio.file.Path;
import java.util.List;
import java.util.regex.Matcher;
import java.util.regex.Pattern;

/** The source keeps to the rules of LANGUAGE.md that a look at its words can tell. */
public final class LanguageTest {
    private static final List<String> RULED_OUT = List.of("\\bthrows?\\b", "\\btry\\b", "\\bcatch\\b", "\\bsynchronized\\b",
        "\\bassert\\b", "->", "::", "\\bimport\\b", "\\bpackage\\b", "\\bprotected\\b", "\\bstatic\\s*\\{", "Exact\\b",
        "\\bdouble\\b", "\\bfloat\\b", "\\bhashCode\\b", "\\btoString\\b", "\\bSystem\\.(?!arraycopy\\b)", "\\bThread\\b",
        "\\bnew\\s+\\w+\\s*(\\([^)]*\\))\\s*\\{", "\\bwhile\\s*\\(\\s*true", "\\bfor\\s*\\(\\s*;");
    private static final int MOST_LINES = 60, MOST_CLASSES = 12, MOST_PARAMETERS = 7;

    public static void main(String[] args) throws Exception {
        String source = Files.readString(Path.of("src/main/java/LogsAfloat.java"));
        String code = source.replaceAll("(?s)/\\*.*?\\*/", "").replaceAll("//[^\\n]*", "");
        for (String pattern : RULED_OUT) {
            Matcher m = Pattern.compile(pattern).matcher(code);
            Due.yes("the source has what is ruled out: " + pattern, !m.find());
        }
        Due.yes("the source has characters above 255", source.chars().allMatch(c -> c < 256));
        Due.yes("too many classes", Pattern.compile("\\bclass\\b").matcher(code).results().count() <= MOST_CLASSES);
        methods(code);
        madeInConstructors(code);
        Due.end();
    }

    private static void methods(String code) {
        Matcher m = Pattern.compile("(?m)^( {4,8})(?:[\\w\\[\\]]+ )*(\\w+)\\(([^)]*)\\) \\{\\n(?s:(.*?))^\\1\\}").matcher(code);
        int seen = 0;
        while (m.find()) {
            seen++;
            Due.yes(m.group(2) + " is too long", m.group(4).lines().count() <= MOST_LINES);
            Due.yes(m.group(2) + " takes too much", m.group(3).split(",").length <= MOST_PARAMETERS);
        }
        Due.yes("the methods were not found", seen > 40);
    }

    /** All calls of a run live in one room: only what stands with fields or in the constructor is made. */
    private static void madeInConstructors(String code) {
        int begins = code.indexOf("public LogsAfloat()");
        int ends = code.indexOf("public int log(");
        Due.yes("the constructor was not found", begins > 0 && ends > begins);
        String elsewhere = code.substring(0, begins) + code.substring(ends);
        for (String line : elsewhere.split("\n")) {
            boolean makes = Pattern.compile("\\bnew\\b").matcher(line).find();
            Due.yes("made by a call: " + line, !makes || line.trim().startsWith("final "));
        }
    }
}
