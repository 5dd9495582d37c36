/** The terms ahead of the promises: refusals, the log, its loads and its turns. */
final class TermsEdges {
    private static final int TERMS = Document.TERMS;
    private static final String ORDER = "Refused is, the first of these that fits, in this order: BAD -1 (a number that is"
        + " none, or not as told), FULL -2, STATE -4 (it has no SQUARES, or weighs nothing), SINKS -5, FINDING -3"
        + " (finding() tells which), unless a call says so otherwise.";
    private static final String[] BAD_AFLOAT = {"floats(4)", "draft(-1)", "above(4)", "middle(4, 0)", "middle(0, 4)",
        "place(4, 0, 0)", "place(0, 1, 0)", "place(0, 0, 1)", "leans(4)", "breadth(4)", "holds(4)", "carries(4)",
        "trim(4, 1)", "trim(0, 0)", "trim(0, 2001)", "room(4, 0, 1)", "room(0, 2, 1)"};
    private static final String[] GOOD_AFLOAT = {"floats(0)", "draft(1)", "above(2)", "middle(3, 0)", "middle(0, 3)",
        "place(1, 0, 0)", "leans(2)", "breadth(3)", "holds(0)"};

    private TermsEdges() {
    }

    static void run() {
        fiveHundredAndTwelveCalls();
        badIsAheadOfFull();
        badIsAheadOfState();
        badIsAheadOfSinks();
        stateIsAheadOfSinks();
        badIsAheadOfFindings();
        stateWithoutSquares();
        stateWithoutWeight();
        ofAllAfloat();
        none();
        refusedChangesNothing();
        findings();
        fractions();
        places();
        weights();
        water();
        sheets();
        tenLoads();
        kinds();
        points();
        ropes();
        all();
        turns();
        turnedPlaces();
        turnedPoints();
        allIsOfATurn();
    }

    private static void fiveHundredAndTwelveCalls() {
        Edge.of(Document.USE, "An object is used for at most 512 calls after it has been made;");
        LogsAfloat x = new LogsAfloat();
        for (int i = 0; i < 510; i++) {
            x.tear(i % 6);
        }
        // the 511th and the 512th
        Edge.is(x, "findings(1)", 510);
        Edge.is(x, "tear(0)", Edge.FINDING);
    }

    private static void badIsAheadOfFull() {
        Edge.of(TERMS, ORDER);
        LogsAfloat x = full();
        Edge.refused(x, Edge.BAD, "load(3, 0, 0, 0)", "load(0, 25, 0, 0)", "load(0, 0, 25, 0)", "load(0, 0, 0, 201)");
        Edge.refused(x, Edge.FULL, "load(0, 0, 0, 0)");
    }

    private static LogsAfloat full() {
        LogsAfloat x = new LogsAfloat();
        for (int i = 0; i < 10; i++) {
            x.load(i % 3, i, i, i);
        }
        return x;
    }

    private static void badIsAheadOfState() {
        Edge.of(TERMS, ORDER);
        Edge.refused(new LogsAfloat(), Edge.BAD, BAD_AFLOAT);
        Edge.refused(Logs.drawn(10, "0"), Edge.BAD, BAD_AFLOAT);
    }

    private static void badIsAheadOfSinks() {
        Edge.of(TERMS, ORDER);
        Edge.refused(Logs.drawn(10, "k"), Edge.BAD, BAD_AFLOAT);
    }

    private static void stateIsAheadOfSinks() {
        Edge.of(TERMS, ORDER);
        // no room at all, so it would sink as well
        LogsAfloat x = new LogsAfloat();
        x.load(0, 1, 1, 200);
        Edge.refused(x, Edge.STATE, GOOD_AFLOAT);
        Edge.refused(x, Edge.STATE, "rests()", "carries(0)", "trim(0, 2000)");
    }

    private static void badIsAheadOfFindings() {
        Edge.of(TERMS, ORDER);
        LogsAfloat x = new LogsAfloat();
        x.load(2, 0, 0, 0);
        x.load(0, 0, 0, 0);
        x.drop(1);
        x.sheet(1, 0);
        Edge.refused(x, Edge.BAD, "sheet(6, -1)", "lay(6, -1, 0)", "tear(6)", "copy(6, 0, 0, 0, -1)", "copy(0, 0, 6, 0, -1)",
            "fill(1, 0)", "fill(1, 1)", "move(1, 25, 0)", "move(0, 0, 25)", "rope(1, 21)", "rope(0, -1)", "told(1, 5)",
            "is(1, 3)");
        Edge.is(x, "finding()", 0);
    }

    private static void stateWithoutSquares() {
        Edge.of(TERMS, ORDER);
        LogsAfloat x = new LogsAfloat();
        x.load(0, 1, 1, 5);
        Edge.refused(x, Edge.STATE, GOOD_AFLOAT);
        x.square(0, 0, 0);
        Edge.is(x, "floats(0)", 1);
        x.square(0, 0, Edge.NONE);
        Edge.refused(x, Edge.STATE, "floats(0)", "rests()");
    }

    private static void stateWithoutWeight() {
        Edge.of(TERMS, ORDER);
        LogsAfloat x = Logs.drawn(10, "0");
        x.load(0, 1, 1, 0);
        Edge.refused(x, Edge.STATE, GOOD_AFLOAT);
        x.load(0, 1, 1, 1);
        Edge.is(x, "floats(0)", 1);
        x.drop(1);
        Edge.refused(x, Edge.STATE, "floats(0)", "rests()");
    }

    private static void ofAllAfloat() {
        Edge.of(Document.INTERFACE, "---- 2 afloat (all: BAD: the TURN; STATE; SINKS, unless told otherwise).");
        String[] calls = {"floats(", "draft(", "above(", "middle(", "place(", "leans(", "breadth(", "holds(", "carries(",
            "trim(", "room("};
        String[] rest = {")", ")", ")", ", 0)", ", 0, 0)", ")", ")", ")", ")", ", 1)", ", 0, 1)"};
        LogsAfloat[] logs = {new LogsAfloat(), Logs.drawn(10, "5"), Logs.drawn(10, "k")};
        for (LogsAfloat x : logs) {
            for (String turn : new String[] {"-1", "4", "MIN", "MAX"}) {
                for (int i = 0; i < calls.length; i++) {
                    Edge.is(x, calls[i] + turn + rest[i], Edge.BAD);
                }
            }
        }
        Edge.refused(logs[0], Edge.STATE, GOOD_AFLOAT);
        Edge.refused(logs[2], Edge.SINKS, GOOD_AFLOAT);
    }

    private static void none() {
        Edge.of(TERMS, "NONE -9.");
        LogsAfloat x = new LogsAfloat();
        Edge.is(x, "at(0, 0)", -9);
        Edge.is(x, "square(0, 0, 0)", -9);
        Edge.is(x, "square(0, 0, -9)", 0);
        Edge.is(x, "at(0, 0)", -9);
        Edge.refused(x, Edge.BAD, "square(0, 0, -8)", "square(0, 0, -10)");
    }

    private static void refusedChangesNothing() {
        Edge.of(TERMS, "What is refused changes nothing but finding(), findings().");
        LogsAfloat x = Logs.drawn(10, "5.", "05");
        x.load(0, 1, 1, 1);
        x.load(1, 2, 2, 2);
        x.load(2, 3, 3, 3);
        x.rope(1, 4);
        x.sheet(0, 2);
        x.lay(0, 1, 7);
        x.sheet(1, 1);
        x.room(0, 3, 2);
        Edge.refused(x, Edge.BAD, "log(13, 1)", "log(1, 0)", "square(2, 0, 1)", "square(0, 0, 21)", "water(21)", "water(0)",
            "sheet(0, 13)", "sheet(6, 1)", "fill(2, 0)", "load(0, 25, 0, 1)", "move(0, 5, 25)", "rope(1, 21)", "drop(3)");
        Edge.finds(x, Edge.SIZE, "sheet(0, -1)");
        Edge.finds(x, Edge.BEYOND, "lay(0, 2, 9)", "copy(0, 0, 1, 0, 2)", "fill(0, 1)");
        Edge.finds(x, Edge.NOTHING, "copy(0, 0, 2, 0, 1)", "fill(0, 2)", "tear(2)", "lay(2, 0, 9)");
        Edge.finds(x, Edge.UNLIKE, "move(2, 9, 9)", "rope(0, 9)", "rope(2, 9)");
        x.square(0, 0, 20);
        x.square(1, 0, 20);
        Edge.refused(x, Edge.SINKS, "draft(0)", "above(0)", "middle(0, 0)", "breadth(0)", "trim(0, 1)");
    }

    private static void findings() {
        Edge.of(TERMS, "FINDINGS: 1 NOTHING (a LOAD, a SHEET that is missing), 2 BEYOND (a place that there is not), 3 UNLIKE"
            + " (of another KIND), 4 NOUGHT (shared among none), 5 SIZE (fewer than none).");
        LogsAfloat x = new LogsAfloat();
        x.load(2, 0, 0, 0);
        x.load(0, 0, 0, 0);
        x.drop(1);
        x.sheet(1, 0);
        Edge.finds(x, 1, "drop(1)", "tear(0)");
        Edge.finds(x, 2, "lay(1, 0, 0)");
        Edge.finds(x, 3, "move(0, 0, 0)");
        Edge.finds(x, 4, "mean()");
        Edge.finds(x, 5, "sheet(0, -1)");
        // the last of each kind that is none any more
        Edge.is(x, "sheet(0, 0)", 0);
        Edge.is(x, "tear(0)", 1);
        x.square(0, 0, 0);
        Edge.is(x, "mean()", 0);
    }

    private static void fractions() {
        Edge.of(TERMS, "Fractions are told by upper() and lower(), in lowest terms, the lower number above 0.");
        LogsAfloat x = Logs.solid(20, 12, 12, 1);
        Edge.told(x, "room(0, 0, 12)", 0, 1);
        Edge.told(x, "room(0, 6, 12)", 6, 1);
        Edge.told(x, "room(0, 12, 12)", 12, 1);
        Edge.told(x, "room(0, 5, 7)", 60, 7);
        x.load(0, 24, 24, 200);
        // all that is borne is borne at 6: 345 times 6 is 1194 less than what the load and the squares weigh there
        Edge.told(x, "middle(0, 2)", 408, 43);
        Edge.told(x, "trim(0, 1)", -1194, 1);
        Edge.told(x, "trim(0, 7)", -1158, 7);
    }

    private static void places() {
        Edge.of(TERMS, "======== 1 THE LOG has places (x, y), x 0 .. W - 1, y 0 .. H - 1 from below (W, H 1 .. 12),");
        LogsAfloat x = new LogsAfloat();
        Edge.is(x, "log(12, 1)", 12);
        Edge.is(x, "at(11, 0)", Edge.NONE);
        Edge.refused(x, Edge.BAD, "at(12, 0)", "at(0, 1)", "at(-1, 0)", "at(0, -1)");
        Edge.is(x, "log(1, 12)", 12);
        Edge.is(x, "at(0, 11)", Edge.NONE);
        Edge.refused(x, Edge.BAD, "at(0, 12)", "at(1, 0)", "log(0, 1)", "log(1, 0)", "log(13, 1)", "log(1, 13)");
        // from below: the heavy end is in the water first
        x.square(0, 0, 10);
        Edge.is(x, "place(0, 0, 0)", 2);
        Edge.told(x, "middle(0, 3)", 1, 2);
    }

    private static void weights() {
        Edge.of(TERMS, "each with a SQUARE of WEIGHT 0 .. 20, or none.");
        LogsAfloat x = new LogsAfloat();
        Edge.is(x, "square(0, 0, 0)", Edge.NONE);
        Edge.is(x, "count(2)", 1);
        Edge.is(x, "square(0, 0, 20)", 0);
        Edge.refused(x, Edge.BAD, "square(0, 0, 21)", "square(0, 0, -1)", "square(0, 0, MIN)", "square(0, 0, MAX)");
        Edge.is(x, "square(0, 0, NONE)", 20);
        Edge.is(x, "count(2)", 0);
    }

    private static void water() {
        Edge.of(TERMS, "WATER weighs d (1 .. 20; 10 at first) for each SQUARE's room.");
        LogsAfloat x = new LogsAfloat();
        x.square(0, 0, 1);
        Edge.told(x, "draft(0)", 1, 10);
        Edge.is(x, "water(20)", 10);
        Edge.told(x, "draft(0)", 1, 20);
        Edge.is(x, "water(1)", 20);
        Edge.told(x, "draft(0)", 1, 1);
        Edge.refused(x, Edge.BAD, "water(0)", "water(21)");
    }

    private static void sheets() {
        Edge.of(TERMS, "SHEETS 0 .. 5 are rows of 0 to 12 bytes, or missing (at first).");
        LogsAfloat x = new LogsAfloat();
        Edge.finds(x, Edge.NOTHING, "tear(0)", "tear(5)");
        Edge.refused(x, Edge.BAD, "tear(-1)", "tear(6)", "sheet(-1, 0)", "sheet(6, 0)", "sheet(0, 13)");
        Edge.is(x, "sheet(0, 0)", 0);
        Edge.is(x, "sheet(5, 12)", 12);
        Edge.is(x, "lay(5, 11, 1)", 1000);
        Edge.finds(x, Edge.BEYOND, "lay(5, 12, 1)", "lay(0, 0, 1)");
    }

    private static void tenLoads() {
        Edge.of(TERMS, "LOADS 0, 1, .. (10 at most ever)");
        LogsAfloat x = new LogsAfloat();
        for (int i = 0; i < 10; i++) {
            Edge.is(x, "load(0, 0, 0, 0)", i);
        }
        Edge.refused(x, Edge.FULL, "load(0, 0, 0, 0)");
        for (int i = 0; i < 10; i++) {
            Edge.is(x, "drop(" + i + ")", 1);
        }
        Edge.refused(x, Edge.FULL, "load(0, 0, 0, 0)");
    }

    private static void kinds() {
        Edge.of(TERMS, "are of a KIND: 0 LOAD, 1 HANGING (a LOAD, too), 2 TIED (a LOAD, too),");
        LogsAfloat x = new LogsAfloat();
        Edge.refused(x, Edge.BAD, "load(-1, 0, 0, 0)", "load(3, 0, 0, 0)");
        Edge.is(x, "load(0, 0, 0, 0)", 0);
        Edge.is(x, "load(1, 0, 0, 0)", 1);
        Edge.is(x, "load(2, 0, 0, 0)", 2);
        for (int i = 0; i < 3; i++) {
            Edge.is(x, "is(" + i + ", 0)", 1);
        }
        Edge.is(x, "is(0, 1)", 0);
        Edge.is(x, "is(1, 2)", 0);
        Edge.is(x, "is(2, 1)", 0);
    }

    private static void points() {
        Edge.of(TERMS, "at a point told in halves (0 .. 24 each; (1, 1) is the middle of place (0, 0)), of a WEIGHT (0 .. 200).");
        LogsAfloat x = Logs.drawn(20, "0");
        // a point may lie beside the log
        Edge.is(x, "load(0, 24, 24, 0)", 0);
        Edge.is(x, "load(0, 0, 0, 200)", 1);
        Edge.refused(x, Edge.BAD, "load(0, -1, 0, 0)", "load(0, 25, 0, 0)", "load(0, 0, -1, 0)", "load(0, 0, 25, 0)",
            "load(0, 0, 0, -1)", "load(0, 0, 0, 201)", "load(0, MAX, MIN, 0)", "load(0, 0, 0, MAX)");
        x.drop(1);
        x.load(0, 1, 1, 20);
        Edge.told(x, "middle(0, 2)", 1, 2);
        Edge.told(x, "middle(0, 3)", 1, 2);
    }

    private static void ropes() {
        Edge.of(TERMS, "A HANGING one acts ROPE halves (0 .. 20; 0 at first) above its point, in whatever TURN.");
        LogsAfloat x = Logs.drawn(10, "000", "000");
        x.load(1, 1, 3, 10);
        long[][] y = {{3, 2}, {1, 2}, {1, 2}, {5, 2}};
        for (int turn = 0; turn < 4; turn++) {
            Edge.told(x, "middle(" + turn + ", 3)", y[turn][0], y[turn][1]);
        }
        Edge.is(x, "rope(0, 20)", 0);
        Edge.refused(x, Edge.BAD, "rope(0, 21)", "rope(0, -1)");
        for (int turn = 0; turn < 4; turn++) {
            Edge.told(x, "middle(" + turn + ", 3)", y[turn][0] + 20, y[turn][1]);
        }
        // it acts higher, not beside: x stays
        Edge.told(x, "middle(0, 2)", 1, 2);
        Edge.told(x, "middle(1, 2)", 1, 2);
    }

    private static void all() {
        Edge.of(TERMS, "ALL: the WEIGHTS of SQUARES and LOADS.");
        LogsAfloat x = Logs.solid(20, 12, 12, 20);
        for (int i = 0; i < 10; i++) {
            x.load(i % 3, 0, 0, 200);
        }
        Edge.is(x, "all()", 144 * 20 + 10 * 200);
        Edge.is(new LogsAfloat(), "all()", 0);
    }

    private static void turns() {
        Edge.of(TERMS, "TURNS 0 .. 3: THE LOG turned by so many quarters: W by H places in TURN 0, 2, else H by W.");
        LogsAfloat x = Logs.drawn(20, "kkk", "kkk");
        for (int turn = 0; turn < 4; turn++) {
            int w = turn % 2 == 0 ? 3 : 2;
            int h = 5 - w;
            Edge.is(x, "place(" + turn + ", " + (w - 1) + ", " + (h - 1) + ")", 2);
            Edge.is(x, "place(" + turn + ", " + w + ", 0)", Edge.BAD);
            Edge.is(x, "place(" + turn + ", 0, " + h + ")", Edge.BAD);
            Edge.told(x, "draft(" + turn + ")", h, 1);
            Edge.told(x, "room(" + turn + ", " + h + ", 1)", 6, 1);
            Edge.is(x, "room(" + turn + ", " + (h + 1) + ", 1)", Edge.BAD);
        }
        Edge.refused(x, Edge.BAD, "floats(-1)", "floats(4)", "place(-1, 0, 0)", "place(4, 0, 0)", "room(4, 0, 1)");
    }

    /** A corner without a square, in the water in whatever turn. */
    private static void turnedPlaces() {
        Edge.of(TERMS, "The place (x, y) comes to (x, y), (H - 1 - y, x), (W - 1 - x, H - 1 - y), (y, W - 1 - x);");
        int[][] corners = {{0, 0}, {2, 0}, {0, 1}, {2, 1}};
        for (int[] c : corners) {
            LogsAfloat x = Logs.drawn(10, "aaa", "aaa");
            x.square(c[0], c[1], Edge.NONE);
            int[][] due = {{c[0], c[1]}, {1 - c[1], c[0]}, {2 - c[0], 1 - c[1]}, {c[1], 2 - c[0]}};
            for (int turn = 0; turn < 4; turn++) {
                int w = turn % 2 == 0 ? 3 : 2;
                for (int i = 0; i < 6; i++) {
                    boolean there = i % w == due[turn][0] && i / w == due[turn][1];
                    Edge.is(x, "place(" + turn + ", " + i % w + ", " + i / w + ")", there ? 1 : 2);
                }
            }
        }
    }

    private static void turnedPoints() {
        Edge.of(TERMS, "the point (a, b) in halves to (a, b), (2 H - b, a), (2 W - a, 2 H - b), (b, 2 W - a).");
        LogsAfloat x = Logs.drawn(10, "000", "000");
        x.load(0, 0, 0, 10);
        int[][] points = {{0, 0}, {6, 4}, {24, 24}, {24, 0}, {0, 24}, {2, 4}};
        for (int[] p : points) {
            x.move(0, p[0], p[1]);
            int[][] due = {p, {4 - p[1], p[0]}, {6 - p[0], 4 - p[1]}, {p[1], 6 - p[0]}};
            for (int turn = 0; turn < 4; turn++) {
                // all these are of whole places
                Edge.told(x, "middle(" + turn + ", 2)", due[turn][0] / 2, 1);
                Edge.told(x, "middle(" + turn + ", 3)", due[turn][1] / 2, 1);
            }
        }
    }

    private static void allIsOfATurn() {
        Edge.of(TERMS, "All that follows is of a TURN.");
        // open above: a boat in turn 0 alone
        LogsAfloat x = Logs.drawn(10, "1..1", "1111");
        int[] dry = {8, 6, 6, 6};
        for (int turn = 0; turn < 4; turn++) {
            int h = turn % 2 == 0 ? 2 : 4;
            Edge.told(x, "room(" + turn + ", " + h + ", 1)", dry[turn], 1);
        }
    }
}
