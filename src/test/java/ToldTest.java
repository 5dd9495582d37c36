/** Promises 31 to 36: what is told. */
public final class ToldTest {
    private static final int BAD = LogsAfloat.BAD, NONE = LogsAfloat.NONE;

    public static void main(String[] args) {
        upperAndLower();
        count();
        findings();
        digestOfANewObject();
        digest();
        digestOfMissing();
        digestChangesWithState();
        Due.end();
    }

    private static void upperAndLower() {
        LogsAfloat x = Logs.drawn(10, "5", "5");
        Due.is(31, "upper() before", x.upper(), 0);
        Due.is(32, "lower() before", x.lower(), 1);
        x.floats(0);
        x.leans(0);
        x.holds(0);
        x.rests();
        x.carries(0);
        x.place(0, 0, 0);
        Due.is(31, "upper() after calls that tell nothing by it", x.upper(), 0);
        Due.is(32, "lower() after calls that tell nothing by it", x.lower(), 1);
        x.room(0, 6, 4);
        Due.is(31, "upper() in lowest terms", x.upper(), 3);
        Due.is(32, "lower() in lowest terms", x.lower(), 2);
        x.room(0, 25, 1);
        x.room(0, 24, 1);
        x.draft(4);
        x.middle(0, 4);
        x.trim(0, 11);
        x.trim(0, 0);
        x.floats(0);
        x.square(0, 0, 20);
        x.draft(0);
        x.above(0);
        x.breadth(0);
        x.middle(0, 2);
        Due.is(31, "upper() after refusals", x.upper(), 3);
        Due.is(32, "lower() after refusals", x.lower(), 2);
        x.room(0, 0, 5);
        Due.is(31, "upper() of 0", x.upper(), 0);
        Due.is(32, "lower() of 0", x.lower(), 1);
    }

    private static void count() {
        LogsAfloat x = Logs.drawn(10, "5.0", "..1");
        x.load(0, 0, 0, 0);
        x.load(0, 0, 0, 0);
        x.drop(0);
        int[] due = {3, 2, 3, 2, 1};
        for (int what = 0; what < 5; what++) {
            Due.is(33, "count(" + what + ")", x.count(what), due[what]);
        }
        Due.is(33, "count(5)", x.count(5), BAD);
        Due.is(33, "count(-1)", x.count(-1), BAD);
    }

    private static void findings() {
        LogsAfloat x = new LogsAfloat();
        Due.is(34, "finding() before any", x.finding(), 0);
        for (int f = 1; f <= 5; f++) {
            Due.is(35, "findings(" + f + ") before any", x.findings(f), 0);
        }
        x.tear(0);
        x.tear(1);
        x.sheet(0, 1);
        x.lay(0, 1, 0);
        x.load(2, 0, 0, 0);
        x.move(0, 0, 0);
        x.rope(0, 0);
        x.move(0, 1, 1);
        Due.is(34, "finding()", x.finding(), 3);
        x.mean();
        Due.is(34, "finding()", x.finding(), 4);
        x.sheet(0, -1);
        x.floats(0);
        x.tear(9);
        Due.is(34, "finding(): what is no FINDING leaves it", x.finding(), 5);
        int[] due = {BAD, 2, 1, 3, 1, 1, BAD};
        for (int f = 0; f <= 6; f++) {
            Due.is(35, "findings(" + f + ")", x.findings(f), due[f]);
        }
        Due.is(35, "findings(-1)", x.findings(-1), BAD);
        Due.is(34, "finding() after findings", x.finding(), 5);
        x.tear(0);
        Due.is(34, "finding(): what is done leaves it", x.finding(), 5);
    }

    private static long mixed(long... vs) {
        long h = 17;
        for (long v : vs) {
            h = 31 * h + v;
        }
        return h;
    }

    private static void digestOfANewObject() {
        long due = mixed(1, 1, NONE, 10, -1, -1, -1, -1, -1, -1);
        Due.is(36, "digest() of a new object", new LogsAfloat().digest(), due);
    }

    private static void digest() {
        LogsAfloat x = Logs.drawn(7, "5.0", "..1");
        x.load(0, 1, 2, 3);
        x.load(1, 4, 5, 6);
        x.load(2, 7, 8, 9);
        x.rope(1, 10);
        x.drop(0);
        x.sheet(0, 0);
        x.sheet(2, 3);
        x.lay(2, 0, -7);
        x.lay(2, 2, 9);
        long due = mixed(3, 2, NONE, NONE, 1, 5, NONE, 0, 7, -1, 1, 4, 5, 6, 10, 2, 7, 8, 9, NONE,
            0, -1, 3, -7, 0, 9, -1, -1, -1);
        Due.is(36, "digest()", x.digest(), due);
    }

    private static void digestOfMissing() {
        LogsAfloat x = new LogsAfloat();
        x.load(1, 1, 1, 1);
        x.drop(0);
        x.sheet(5, 2);
        x.tear(5);
        Due.is(36, "digest() of missing ones", x.digest(), mixed(1, 1, NONE, 10, -1, -1, -1, -1, -1, -1, -1));
    }

    private static void digestChangesWithState() {
        LogsAfloat x = Logs.drawn(10, "555", "5.5");
        long before = x.digest();
        x.room(0, 1, 1);
        x.draft(1);
        x.rests();
        x.trim(2, 3);
        x.tear(0);
        x.square(0, 0, 21);
        x.log(0, 0);
        Due.is(36, "digest() after calls that change nothing", x.digest(), before);
        x.square(1, 0, 0);
        Due.yes("promise 36: a square of weight 0 leaves digest()", x.digest() != before);
    }
}
