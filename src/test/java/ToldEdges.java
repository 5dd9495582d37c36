import java.math.BigInteger;
import java.util.Arrays;

/** Promises 31 to 36 at their edges. */
final class ToldEdges {
    private static final int NONE = Edge.NONE;
    private static final String UPPER = "The upper number of what a call that answered 1 told last by it; 0 before.";
    private static final String LOWER = "Its lower number; 1 before.";

    private ToldEdges() {
    }

    static void run() {
        before();
        toldLast();
        leftByWhatTellsNothing();
        leftByWhatIsRefused();
        count();
        countBad();
        finding();
        findings();
        findingsBad();
        digestOfPlaces();
        digestOfLoads();
        digestOfSheets();
        digestWrapsAround();
    }

    private static void before() {
        LogsAfloat x = new LogsAfloat();
        Edge.of(31, UPPER);
        Edge.is(x, "upper()", 0);
        Edge.of(32, LOWER);
        Edge.is(x, "lower()", 1);
        // a refused call is none
        x.draft(0);
        x.room(0, 2, 1);
        Edge.is(x, "upper()", 0);
        Edge.is(x, "lower()", 1);
    }

    private static void toldLast() {
        Edge.of(31, UPPER);
        LogsAfloat x = Logs.drawn(10, "64", "64");
        Edge.told(x, "draft(0)", 1, 1);
        Edge.told(x, "above(1)", 1, 1);
        Edge.told(x, "middle(0, 2)", 9, 10);
        Edge.told(x, "breadth(0)", 2, 3);
        Edge.told(x, "trim(0, 2)", 2, 1);
        Edge.told(x, "room(0, 1, 7)", 2, 7);
        // asked again it is the same
        Edge.is(x, "upper()", 2);
        Edge.is(x, "upper()", 2);
    }

    private static void leftByWhatTellsNothing() {
        Edge.of(32, LOWER);
        LogsAfloat x = Logs.drawn(10, "64", "64");
        x.load(0, 0, 0, 0);
        x.load(1, 0, 0, 0);
        x.sheet(0, 2);
        x.sheet(1, 1);
        Edge.told(x, "room(0, 1, 7)", 2, 7);
        // these answer 1 as well, but tell nothing by it
        for (String call : new String[] {"floats(0)", "leans(0)", "place(0, 0, 0)", "is(0, 0)", "move(0, 1, 1)",
            "copy(0, 0, 0, 0, 1)", "drop(1)", "tear(0)", "sheet(0, 1)"}) {
            Edge.is(x, call, call.startsWith("place") ? 2 : 1);
            Edge.is(x, "upper()", 2);
            Edge.is(x, "lower()", 7);
        }
        x.holds(0);
        x.rests();
        x.carries(0);
        x.log(1, 1);
        Edge.is(x, "upper()", 2);
        Edge.is(x, "lower()", 7);
    }

    private static void leftByWhatIsRefused() {
        Edge.of(32, LOWER);
        LogsAfloat x = Logs.drawn(10, "64", "64");
        Edge.told(x, "room(0, 1, 7)", 2, 7);
        Edge.refused(x, Edge.BAD, "draft(4)", "above(4)", "middle(0, 4)", "breadth(4)", "trim(0, 0)", "room(0, 3, 1)");
        Edge.refused(x, Edge.SINKS, "trim(0, 21)");
        x.square(0, 0, 20);
        x.square(0, 1, 20);
        Edge.refused(x, Edge.SINKS, "draft(0)", "above(0)", "middle(0, 2)", "breadth(0)", "trim(0, 1)");
        x.log(1, 1);
        Edge.refused(x, Edge.STATE, "draft(0)", "above(0)", "middle(0, 2)", "breadth(0)", "trim(0, 1)");
        Edge.is(x, "upper()", 2);
        Edge.is(x, "lower()", 7);
    }

    private static void counts(LogsAfloat x, int... due) {
        for (int what = 0; what < 5; what++) {
            Edge.is(x, "count(" + what + ")", due[what]);
        }
    }

    private static void count() {
        Edge.of(33, "0 W, 1 H, 2 SQUARES, 3 LOADS ever, 4 LOADS that are there.");
        counts(new LogsAfloat(), 1, 1, 0, 0, 0);
        LogsAfloat x = Logs.solid(10, 12, 11, 0);
        counts(x, 12, 11, 132, 0, 0);
        for (int i = 0; i < 10; i++) {
            x.load(0, 0, 0, 0);
        }
        counts(x, 12, 11, 132, 10, 10);
        x.load(0, 0, 0, 0);
        x.drop(0);
        x.drop(9);
        x.drop(9);
        x.square(0, 0, NONE);
        counts(x, 12, 11, 131, 10, 8);
        x.log(1, 12);
        counts(x, 1, 12, 0, 0, 0);
    }

    private static void countBad() {
        Edge.of(33, "BAD.");
        Edge.refused(Logs.drawn(10, "5"), Edge.BAD, "count(-1)", "count(5)", "count(MIN)", "count(MAX)");
    }

    private static void finding() {
        Edge.of(34, "The latest FINDING (0 before any).");
        LogsAfloat x = Logs.drawn(10, "b");
        Edge.is(x, "finding()", 0);
        // no other refusal is one
        x.tear(6);
        x.draft(0);
        x.log(1, 1);
        x.draft(0);
        for (int i = 0; i <= 10; i++) {
            x.load(2, 0, 0, 0);
        }
        x.findings(6);
        Edge.is(x, "finding()", 0);
        x.tear(0);
        x.move(0, 0, 0);
        Edge.is(x, "finding()", Edge.UNLIKE);
        // neither what is done, nor BAD, nor asking takes it back
        x.sheet(0, 1);
        x.tear(6);
        x.log(1, 1);
        Edge.is(x, "finding()", Edge.UNLIKE);
        x.tear(5);
        Edge.is(x, "finding()", Edge.NOTHING);
    }

    private static void findings() {
        Edge.of(35, "How often a FINDING (1 .. 5) was answered.");
        LogsAfloat x = new LogsAfloat();
        for (int f = 1; f <= 5; f++) {
            Edge.is(x, "findings(" + f + ")", 0);
        }
        x.sheet(0, 0);
        x.load(2, 0, 0, 0);
        String[] calls = {"tear(1)", "lay(0, 0, 0)", "move(0, 0, 0)", "mean()", "sheet(0, -1)"};
        // the f-th so often as f tells
        for (int f = 1; f <= 5; f++) {
            for (int i = 0; i < f; i++) {
                Edge.is(x, calls[f - 1], Edge.FINDING);
            }
        }
        x.log(1, 1);
        x.tear(6);
        for (int f = 1; f <= 5; f++) {
            Edge.is(x, "findings(" + f + ")", f);
        }
    }

    private static void findingsBad() {
        Edge.of(35, "BAD.");
        Edge.refused(new LogsAfloat(), Edge.BAD, "findings(0)", "findings(6)", "findings(-1)", "findings(MIN)", "findings(MAX)");
    }

    /** Worked out without wrapping, and cut to 64 bits at the end. */
    private static long mixed(int... vs) {
        BigInteger h = BigInteger.valueOf(17);
        for (int v : vs) {
            h = h.multiply(BigInteger.valueOf(31)).add(BigInteger.valueOf(v));
        }
        return h.longValue();
    }

    private static void digestOfPlaces() {
        Edge.of(36, "h = 17; then h = 31 h + v for each v: W, H, at() of each place by ROWS; d;");
        LogsAfloat x = new LogsAfloat();
        Edge.is(x, "digest()", mixed(1, 1, NONE, 10, -1, -1, -1, -1, -1, -1));
        x.square(0, 0, 0);
        x.water(20);
        Edge.is(x, "digest()", mixed(1, 1, 0, 20, -1, -1, -1, -1, -1, -1));
        // from below, each row from the left
        Edge.is(Logs.drawn(1, "45.", "123"), "digest()", mixed(3, 2, 1, 2, 3, 4, 5, NONE, 1, -1, -1, -1, -1, -1, -1));
    }

    private static void digestOfLoads() {
        Edge.of(36, "of each LOAD told() 0 to 4 (-1 once: missing);");
        LogsAfloat x = new LogsAfloat();
        x.load(0, 1, 2, 3);
        x.load(1, 4, 5, 6);
        x.load(2, 7, 8, 9);
        x.rope(1, 20);
        Edge.is(x, "digest()", mixed(1, 1, NONE, 10, 0, 1, 2, 3, NONE, 1, 4, 5, 6, 20, 2, 7, 8, 9, NONE, -1, -1, -1, -1, -1, -1));
        x.drop(1);
        Edge.is(x, "digest()", mixed(1, 1, NONE, 10, 0, 1, 2, 3, NONE, -1, 2, 7, 8, 9, NONE, -1, -1, -1, -1, -1, -1));
        x.drop(0);
        x.drop(2);
        Edge.is(x, "digest()", mixed(1, 1, NONE, 10, -1, -1, -1, -1, -1, -1, -1, -1, -1));
        x.log(1, 1);
        Edge.is(x, "digest()", mixed(1, 1, NONE, 10, -1, -1, -1, -1, -1, -1));
        // it asks told() of missing ones without a finding
        Edge.is(x, "finding()", 0);
    }

    private static void digestOfSheets() {
        Edge.of(36, "of each SHEET its size (-1: missing), its bytes.");
        LogsAfloat x = new LogsAfloat();
        x.sheet(0, 0);
        x.sheet(2, 2);
        x.lay(2, 0, 128);
        x.lay(2, 1, 127);
        x.sheet(5, 1);
        Edge.is(x, "digest()", mixed(1, 1, NONE, 10, 0, -1, 2, -128, 127, -1, -1, 1, 0));
        x.tear(2);
        x.tear(0);
        Edge.is(x, "digest()", mixed(1, 1, NONE, 10, -1, -1, -1, -1, -1, 1, 0));
    }

    private static void digestWrapsAround() {
        Edge.of(36, "h = 17; then h = 31 h + v for each v: W, H, at() of each place by ROWS; d;");
        LogsAfloat x = Logs.solid(20, 12, 12, 20);
        int[] vs = new int[147 + 50 + 6 * 13];
        vs[0] = 12;
        vs[1] = 12;
        Arrays.fill(vs, 2, 146, 20);
        vs[146] = 20;
        for (int i = 0; i < 10; i++) {
            x.load(1, 24, 23, 200);
            x.rope(i, 20);
            System.arraycopy(new int[] {1, 24, 23, 200, 20}, 0, vs, 147 + 5 * i, 5);
        }
        for (int s = 0; s < 6; s++) {
            x.sheet(s, 12);
            x.lay(s, 11, -1);
            vs[197 + 13 * s] = 12;
            vs[197 + 13 * s + 12] = -1;
        }
        Edge.is(x, "digest()", mixed(vs));
    }
}
