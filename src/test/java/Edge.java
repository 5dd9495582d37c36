import java.lang.reflect.Method;
import java.lang.reflect.Modifier;
import java.nio.file.Path;
import java.util.Arrays;
import java.util.HashMap;
import java.util.IdentityHashMap;
import java.util.Map;

/**
 * A boundary case of one sentence of the document. Calls are given as texts, "lay(5, 11, MAX)", so that
 * what is printed is what was called.
 */
final class Edge {
    static final int BAD = -1, FULL = -2, FINDING = -3, STATE = -4, SINKS = -5, NONE = -9;
    static final int NOTHING = 1, BEYOND = 2, UNLIKE = 3, NOUGHT = 4, SIZE = 5;

    /** An object is used for at most 512 calls; the rest of them is left for building the log. */
    private static final int MOST_ASKED = 340;

    private static final Document DOCUMENT = new Document(Path.of("../shared/DOC.md"));
    private static final Map<String, Method> CALLS = new HashMap<>();
    private static final Map<LogsAfloat, Integer> ASKED = new IdentityHashMap<>();
    private static int section = 0;
    private static String sentence = "";

    static {
        for (Method m : LogsAfloat.class.getDeclaredMethods()) {
            if (Modifier.isPublic(m.getModifiers())) {
                CALLS.put(m.getName(), m);
            }
        }
    }

    private Edge() {
    }

    /** What is asked from here on is of this sentence. */
    static void of(int inSection, String words) {
        section = inSection;
        sentence = words;
        Due.yes("the document does not say under " + section + ": " + words, DOCUMENT.says(section, words));
    }

    static void everySentenceWasQuoted() {
        for (int s = Document.TERMS; s <= Document.PROMISES; s++) {
            Due.yes("the document has no promise " + s, DOCUMENT.has(s));
            String left = DOCUMENT.unquoted(s);
            Due.yes("promise " + s + " has words without a test: " + left, left.chars().noneMatch(Character::isLetterOrDigit));
        }
    }

    static long answer(LogsAfloat x, String call) {
        int asked = ASKED.merge(x, 1, Integer::sum);
        Due.yes("a test asks one object too often: " + call, asked <= MOST_ASKED);
        int open = call.indexOf('(');
        String[] parts = call.substring(open + 1, call.length() - 1).split(", ");
        Object[] given = Arrays.stream(parts).filter(p -> !p.isEmpty()).map(Edge::number).toArray();
        try {
            return ((Number) CALLS.get(call.substring(0, open)).invoke(x, given)).longValue();
        } catch (ReflectiveOperationException e) {
            throw new IllegalStateException(call, e);
        }
    }

    private static Integer number(String word) {
        switch (word) {
            case "MIN":
                return Integer.MIN_VALUE;
            case "MAX":
                return Integer.MAX_VALUE;
            case "NONE":
                return NONE;
            default:
                return Integer.valueOf(word);
        }
    }

    private static void due(String what, long got, long want) {
        Due.is(section, what + " [" + sentence + "]", got, want);
    }

    static void is(LogsAfloat x, String call, long want) {
        due(call, answer(x, call), want);
    }

    /** The call answers 1 and tells this fraction. */
    static void told(LogsAfloat x, String call, long upper, long lower) {
        is(x, call, 1);
        due(call + ", upper()", answer(x, "upper()"), upper);
        due(call + ", lower()", answer(x, "lower()"), lower);
    }

    /** Each of these calls is refused with this answer, and nothing is changed by it, finding() neither. */
    static void refused(LogsAfloat x, int want, String... calls) {
        long[] before = state(x);
        long finding = answer(x, "finding()");
        for (String call : calls) {
            is(x, call, want);
            unchanged(call, before, state(x));
            due(call + ", finding()", answer(x, "finding()"), finding);
        }
    }

    /** Each of these calls is refused with this finding, is counted, and changes nothing else. */
    static void finds(LogsAfloat x, int finding, String... calls) {
        long[] before = state(x);
        long found = answer(x, "findings(" + finding + ")");
        for (String call : calls) {
            found++;
            is(x, call, FINDING);
            due(call + ", finding()", answer(x, "finding()"), finding);
            due(call + ", findings(" + finding + ")", answer(x, "findings(" + finding + ")"), found);
            unchanged(call, before, state(x));
        }
    }

    private static long[] state(LogsAfloat x) {
        return new long[] {answer(x, "digest()"), answer(x, "upper()"), answer(x, "lower()")};
    }

    private static void unchanged(String call, long[] before, long[] after) {
        due(call + ", digest() after it", after[0], before[0]);
        due(call + ", upper() after it", after[1], before[1]);
        due(call + ", lower() after it", after[2], before[2]);
    }
}
