import java.io.IOException;
import java.io.UncheckedIOException;
import java.nio.file.Files;
import java.nio.file.Path;
import java.util.Arrays;
import java.util.regex.Matcher;
import java.util.regex.Pattern;

/** The document's words by sections, so that a test can quote its sentence and no sentence stays without a test. */
final class Document {
    /** Sections 1 .. PROMISES are the promises; what stands ahead of them is cut in three. */
    static final int USE = -2, INTERFACE = -1, TERMS = 0, PROMISES = 36;

    private final String[] words = new String[PROMISES + 3];
    private final boolean[][] quoted = new boolean[PROMISES + 3][];

    Document(Path path) {
        String text = read(path).replaceAll("\\s+", " ");
        put(USE, between(text, "## What it is", "## The public face"));
        put(TERMS, between(text, "## Terms", "Ahead of the calls").replace("```text", "").replace("```", ""));
        put(INTERFACE, between(text, "Ahead of the calls", "## Promise 1:"));
        Pattern promise = Pattern.compile("## Promise (\\d+): \\w[\\w ]*? `[^`]*`: (.*?)(?= ##)");
        Matcher m = promise.matcher(text);
        while (m.find()) {
            put(Integer.parseInt(m.group(1)), m.group(2));
        }
    }

    private static String read(Path path) {
        try {
            return Files.readString(path);
        } catch (IOException e) {
            throw new UncheckedIOException(e);
        }
    }

    private static String between(String text, String from, String to) {
        int begins = text.indexOf(from) + from.length();
        return text.substring(begins, text.indexOf(to, begins));
    }

    private void put(int section, String text) {
        words[section + 2] = text.replaceAll("\\s+", " ").trim();
        quoted[section + 2] = new boolean[words[section + 2].length()];
    }

    boolean has(int section) {
        return words[section + 2] != null;
    }

    /** Whether a section says this; it counts as quoted from now on. */
    boolean says(int section, String sentence) {
        if (!has(section)) {
            return false;
        }
        String all = words[section + 2];
        int at = all.indexOf(sentence);
        boolean there = at >= 0;
        while (at >= 0) {
            Arrays.fill(quoted[section + 2], at, at + sentence.length(), true);
            at = all.indexOf(sentence, at + 1);
        }
        return there;
    }

    /** What of a section nobody has quoted. */
    String unquoted(int section) {
        StringBuilder left = new StringBuilder();
        for (int i = 0; has(section) && i < words[section + 2].length(); i++) {
            left.append(quoted[section + 2][i] ? ' ' : words[section + 2].charAt(i));
        }
        return left.toString().trim();
    }
}
