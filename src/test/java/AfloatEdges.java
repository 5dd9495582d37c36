/** Promises 19 to 30 at their edges. */
final class AfloatEdges {
    private AfloatEdges() {
    }

    static void run() {
        floats();
        draft();
        above();
        middle();
        middleBad();
        place();
        placeBad();
        leans();
        breadth();
        holds();
        rests();
        restsState();
        carries();
        carriesOverARim();
        carriesState();
        trim();
        trimOverARim();
        trimBad();
        trimSinks();
        trimState();
        room();
        roomBad();
        roomOfNothing();
    }

    /** What all calls of a turn are refused with, but for those that say otherwise. */
    private static void refusals(String call) {
        for (String turn : new String[] {"-1", "4", "MIN", "MAX"}) {
            Edge.refused(Logs.drawn(10, "5"), Edge.BAD, call.replace("(0", "(" + turn));
        }
        LogsAfloat loadAlone = new LogsAfloat();
        loadAlone.load(0, 1, 1, 1);
        Edge.refused(loadAlone, Edge.STATE, call);
        Edge.refused(Logs.drawn(10, "0"), Edge.STATE, call);
        Edge.refused(Logs.drawn(10, "b"), Edge.SINKS, call);
        Edge.is(Logs.drawn(10, "b"), call.replace("(0", "(3"), Edge.SINKS);
    }

    private static void floats() {
        Edge.of(19, "Whether it floats: 1.");
        refusals("floats(0)");
        LogsAfloat x = Logs.drawn(10, "a");
        for (int turn = 0; turn < 4; turn++) {
            Edge.is(x, "floats(" + turn + ")", 1);
        }
        // in one turn alone: a boat that would be flooded in all others
        LogsAfloat boat = Logs.drawn(10, "1..1", "1111");
        boat.load(0, 4, 0, 74);
        int[] due = {1, Edge.SINKS, Edge.SINKS, Edge.SINKS};
        for (int turn = 0; turn < 4; turn++) {
            Edge.is(boat, "floats(" + turn + ")", due[turn]);
        }
        boat.load(0, 4, 0, 1);
        Edge.is(boat, "floats(0)", Edge.SINKS);
    }

    private static void draft() {
        Edge.of(20, "THE DRAFT, told by upper(), lower(): 1.");
        refusals("draft(0)");
        LogsAfloat x = Logs.drawn(20, "1");
        Edge.told(x, "draft(0)", 1, 20);
        x.square(0, 0, 20);
        Edge.told(x, "draft(0)", 1, 1);
        LogsAfloat flat = Logs.drawn(10, "555");
        Edge.told(flat, "draft(2)", 1, 2);
        Edge.told(flat, "draft(3)", 3, 2);
    }

    private static void above() {
        Edge.of(21, "How much of H of the TURN is above THE DRAFT: told by upper(), lower(): 1.");
        refusals("above(0)");
        LogsAfloat x = Logs.drawn(10, "555");
        Edge.told(x, "above(0)", 1, 2);
        Edge.told(x, "above(1)", 3, 2);
        x.load(0, 3, 1, 15);
        Edge.told(x, "above(0)", 0, 1);
        Edge.told(x, "above(1)", 0, 1);
        Edge.told(Logs.drawn(20, "000000000001"), "above(0)", 239, 240);
        // row 1 begins just: all of it is above
        Edge.told(Logs.drawn(10, "00", "aa"), "above(0)", 1, 1);
    }

    private static void middle() {
        Edge.of(22, "Of B (0, 1) and G (2, 3) x, y: told by upper(), lower(): 1.");
        for (int what = 0; what < 4; what++) {
            refusals("middle(0, " + what + ")");
        }
        LogsAfloat x = Logs.drawn(10, "5..", "555");
        long[][] due = {{2, 1}, {5, 6}, {7, 4}, {5, 4}};
        for (int what = 0; what < 4; what++) {
            Edge.told(x, "middle(2, " + what + ")", due[what][0], due[what][1]);
        }
        // G may lie beside the log, below 0 too
        LogsAfloat far = Logs.drawn(20, "0");
        far.load(1, 24, 24, 20);
        far.rope(0, 20);
        Edge.told(far, "middle(0, 2)", 12, 1);
        Edge.told(far, "middle(0, 3)", 22, 1);
        Edge.told(far, "middle(1, 2)", -11, 1);
        Edge.told(far, "middle(2, 3)", -1, 1);
        Edge.told(far, "middle(3, 3)", -1, 1);
        Edge.told(far, "middle(3, 0)", 1, 2);
        // and at 0
        far.move(0, 0, 2);
        far.rope(0, 0);
        Edge.told(far, "middle(0, 2)", 0, 1);
        Edge.told(far, "middle(2, 3)", 0, 1);
    }

    private static void middleBad() {
        Edge.of(22, "BAD: also what.");
        LogsAfloat[] logs = {new LogsAfloat(), Logs.drawn(10, "5"), Logs.drawn(10, "b")};
        for (LogsAfloat x : logs) {
            Edge.refused(x, Edge.BAD, "middle(0, -1)", "middle(0, 4)", "middle(0, MIN)", "middle(0, MAX)", "middle(4, 4)");
        }
    }

    private static void place() {
        Edge.of(23, "What a place (as it lies in the TURN) is with water up to THE DRAFT: 0 above it (a ROW above r), 1 WET, 2 FIRM"
            + " with a SQUARE, 3 FIRM without one (dry).");
        refusals("place(0, 0, 0)");
        LogsAfloat x = Logs.boat();
        x.load(0, 4, 0, 72);
        // the top row first; just below the rim, at it
        looks(x, 0, "0000", "2332", "2222");
        x.load(0, 4, 0, 1);
        looks(x, 0, "0000", "2332", "2222");
        LogsAfloat over = Logs.drawn(10, "11111", "11111", "....1", "1...1", "11111");
        over.load(0, 5, 0, 82);
        looks(over, 0, "00000", "00000", "00000", "23332", "22222");
        over.load(0, 5, 0, 1);
        looks(over, 0, "00000", "22222", "11112", "21112", "22222");
        // as it lies in the turn
        LogsAfloat step = Logs.drawn(10, "a..", "aaa");
        looks(step, 0, "211", "222");
        looks(step, 1, "12", "12", "22");
        looks(step, 2, "222", "112");
        looks(step, 3, "22", "21", "21");
    }

    private static void looks(LogsAfloat x, int turn, String... rows) {
        for (int i = 0; i < rows.length; i++) {
            for (int at = 0; at < rows[i].length(); at++) {
                String call = "place(" + turn + ", " + at + ", " + (rows.length - 1 - i) + ")";
                Edge.is(x, call, rows[i].charAt(at) - '0');
            }
        }
    }

    private static void placeBad() {
        Edge.of(23, "BAD: also the place.");
        LogsAfloat[] logs = {Logs.drawn(10, "555", "555"), Logs.drawn(10, "000", "000"), Logs.drawn(10, "bbb", "bbb")};
        for (LogsAfloat x : logs) {
            Edge.refused(x, Edge.BAD, "place(0, 3, 0)", "place(0, 0, 2)", "place(0, -1, 0)", "place(0, 0, -1)", "place(2, 3, 1)",
                "place(2, 2, 2)", "place(1, 2, 0)", "place(1, 0, 3)", "place(3, 2, 2)", "place(3, 1, 3)", "place(0, MIN, 0)",
                "place(0, 0, MAX)", "place(1, MAX, MIN)", "place(4, 0, 0)");
        }
        Edge.is(logs[0], "place(0, 2, 1)", 0);
        Edge.is(logs[0], "place(1, 1, 2)", 0);
    }

    private static void leans() {
        Edge.of(24, "LEANS.");
        refusals("leans(0)");
        LogsAfloat x = Logs.drawn(10, "55");
        Edge.is(x, "leans(0)", 0);
        x.square(0, 0, 6);
        Edge.is(x, "leans(0)", 1);
        Edge.is(x, "leans(2)", 2);
        // one above the other: level
        Edge.is(x, "leans(1)", 0);
        Edge.is(x, "leans(3)", 0);
        // all weight to one side, with none at the other
        LogsAfloat far = Logs.drawn(20, "000");
        far.load(0, 24, 0, 1);
        Edge.is(far, "leans(0)", 2);
        far.move(0, 0, 0);
        Edge.is(far, "leans(0)", 1);
    }

    private static void breadth() {
        Edge.of(25, "BREADTH, told by upper(), lower(): 1.");
        refusals("breadth(0)");
        Edge.told(Logs.drawn(10, "5"), "breadth(0)", 1, 12);
        Edge.told(Logs.solid(20, 12, 12, 5), "breadth(0)", 144, 1);
        Edge.told(Logs.drawn(10, ".", "a"), "breadth(0)", 0, 1);
        // dry places count, too
        LogsAfloat x = Logs.drawn(10, "1..1", "1111");
        x.load(0, 4, 0, 73);
        Edge.told(x, "breadth(0)", 16, 3);
    }

    private static void holds() {
        Edge.of(26, "HOLDS.");
        refusals("holds(0)");
        LogsAfloat x = Logs.drawn(10, "5555", "5555");
        Edge.is(x, "holds(0)", 2);
        Edge.is(x, "holds(1)", 0);
        x.square(0, 0, 6);
        Edge.is(x, "holds(0)", 0);
        // a rope that makes it alike, and a half more or less of it
        LogsAfloat hung = Logs.solid(10, 6, 5, 0);
        hung.load(1, 6, 0, 120);
        int[] due = {2, 1, 0};
        for (int i = 0; i < 3; i++) {
            hung.rope(0, 4 + i);
            Edge.is(hung, "holds(0)", due[i]);
        }
    }

    private static void rests() {
        Edge.of(27, "TURNS (bits) in which it floats, and HOLDS 2.");
        Edge.is(Logs.drawn(10, "a"), "rests()", 15);
        Edge.is(Logs.drawn(10, "5555", "5555"), "rests()", 5);
        Edge.is(Logs.drawn(10, "55", "55", "55", "55"), "rests()", 10);
        // 1 is not enough
        Edge.is(Logs.solid(10, 6, 5, 4), "rests()", 0);
        // what sinks does not rest, and is not refused
        Edge.is(Logs.drawn(10, "b"), "rests()", 0);
        LogsAfloat boat = Logs.drawn(10, "1..1", "1111");
        boat.load(0, 4, 0, 74);
        Edge.is(boat, "rests()", 1);
        LogsAfloat turned = Logs.drawn(10, "1111", "1..1");
        turned.load(0, 4, 4, 74);
        Edge.is(turned, "rests()", 4);
        // in turn 1 the left side comes down, in turn 3 the right one
        LogsAfloat left = Logs.drawn(10, "11", "1.", "1.", "11");
        left.load(0, 0, 4, 74);
        Edge.is(left, "rests()", 2);
        LogsAfloat right = Logs.drawn(10, "11", ".1", ".1", "11");
        right.load(0, 4, 4, 74);
        Edge.is(right, "rests()", 8);
    }

    private static void restsState() {
        Edge.of(27, "STATE.");
        LogsAfloat loadAlone = new LogsAfloat();
        loadAlone.load(0, 1, 1, 1);
        Edge.refused(loadAlone, Edge.STATE, "rests()");
        Edge.refused(new LogsAfloat(), Edge.STATE, "rests()");
        Edge.refused(Logs.drawn(10, "0"), Edge.STATE, "rests()");
    }

    private static void carries() {
        Edge.of(28, "The greatest whole WEIGHT more (wherever) with which it still floats.");
        for (String turn : new String[] {"-1", "4", "MIN", "MAX"}) {
            Edge.refused(Logs.drawn(10, "5"), Edge.BAD, "carries(" + turn + ")");
        }
        Edge.is(Logs.solid(20, 12, 12, 0), "carries(0)", 2880);
        Edge.is(Logs.solid(20, 12, 12, 20), "carries(1)", 0);
        LogsAfloat x = Logs.drawn(10, "9");
        Edge.is(x, "carries(0)", 1);
        x.load(0, 24, 24, 1);
        Edge.is(x, "carries(0)", 0);
        Edge.is(x, "floats(0)", 1);
        x.load(0, 24, 24, 1);
        Edge.refused(x, Edge.SINKS, "carries(0)", "floats(0)");
    }

    private static void carriesOverARim() {
        Edge.of(28, "The greatest whole WEIGHT more (wherever) with which it still floats.");
        // the rim has more room than the top, in turn 0 alone
        LogsAfloat x = Logs.boat();
        int[] due = {73, 63, 63, 63};
        for (int turn = 0; turn < 4; turn++) {
            Edge.is(x, "carries(" + turn + ")", due[turn]);
        }
        // the top has more than the rim
        LogsAfloat high = Logs.drawn(10, "11111", "11111", "....1", "1...1", "11111");
        Edge.is(high, "carries(0)", 162);
        high.load(0, 5, 0, 162);
        Edge.is(high, "carries(0)", 0);
        Edge.told(high, "draft(0)", 5, 1);
    }

    private static void carriesState() {
        Edge.of(28, "(STATE: no SQUARES alone.)");
        LogsAfloat x = new LogsAfloat();
        Edge.refused(x, Edge.STATE, "carries(0)", "carries(3)");
        x.load(0, 1, 1, 200);
        Edge.refused(x, Edge.STATE, "carries(0)");
        Edge.is(Logs.drawn(10, "0"), "carries(0)", 10);
        Edge.is(Logs.drawn(1, "0"), "carries(3)", 1);
    }

    private static void trim() {
        Edge.of(29, "At which x a WEIGHT of k (1 .. 2000) more has to act so that it is LEVEL then: told by upper(), lower(): 1.");
        LogsAfloat x = Logs.solid(20, 12, 12, 0);
        Edge.told(x, "trim(0, 1)", 6, 1);
        Edge.told(x, "trim(0, 2000)", 6, 1);
        for (int i = 0; i < 10; i++) {
            x.load(0, 24, 12, 200);
        }
        // far beside the log, on either side
        Edge.told(x, "trim(0, 1)", -11994, 1);
        Edge.told(x, "trim(2, 1)", 12006, 1);
        Edge.told(x, "trim(0, 880)", -84, 11);
        // where it has told, it is level
        LogsAfloat small = Logs.drawn(10, "64");
        Edge.told(small, "trim(0, 1)", 2, 1);
        small.load(0, 4, 0, 1);
        Edge.is(small, "leans(0)", 0);
        Edge.told(small, "trim(0, 9)", 1, 1);
        LogsAfloat zero = Logs.drawn(10, "46");
        Edge.told(zero, "trim(0, 1)", 0, 1);
    }

    private static void trimOverARim() {
        Edge.of(29, "At which x a WEIGHT of k (1 .. 2000) more has to act so that it is LEVEL then: told by upper(), lower(): 1.");
        LogsAfloat x = Logs.drawn(10, "11111", "11111", "....1", "1...1", "11111");
        // with 82 more it lies at the rim, with 83 it is flooded and bears at another place
        Edge.told(x, "trim(0, 82)", 203, 82);
        Edge.told(x, "trim(0, 83)", 451, 166);
    }

    private static void trimBad() {
        Edge.of(29, "BAD: also k;");
        LogsAfloat[] logs = {new LogsAfloat(), Logs.drawn(10, "5"), Logs.drawn(10, "b")};
        for (LogsAfloat x : logs) {
            Edge.refused(x, Edge.BAD, "trim(0, 0)", "trim(0, -1)", "trim(0, 2001)", "trim(0, MIN)", "trim(0, MAX)", "trim(-1, 1)",
                "trim(4, 1)", "trim(MIN, 1)", "trim(MAX, 1)");
        }
    }

    private static void trimSinks() {
        Edge.of(29, "SINKS: with that.");
        LogsAfloat x = Logs.drawn(10, "5555", "5555");
        Edge.told(x, "trim(0, 40)", 2, 1);
        Edge.refused(x, Edge.SINKS, "trim(0, 41)", "trim(0, 2000)");
        Edge.is(x, "floats(0)", 1);
        Edge.refused(Logs.drawn(10, "b"), Edge.SINKS, "trim(0, 1)");
        Edge.refused(Logs.drawn(10, "a"), Edge.SINKS, "trim(3, 1)");
    }

    private static void trimState() {
        Edge.of(29, "(STATE: no SQUARES alone.)");
        LogsAfloat x = new LogsAfloat();
        Edge.refused(x, Edge.STATE, "trim(0, 1)", "trim(3, 2000)");
        x.load(0, 1, 1, 1);
        Edge.refused(x, Edge.STATE, "trim(0, 1)");
        LogsAfloat light = Logs.drawn(10, "00");
        Edge.told(light, "trim(0, 20)", 1, 1);
        Edge.refused(light, Edge.SINKS, "trim(0, 21)");
    }

    private static void room() {
        Edge.of(30, "ROOM of a height u by l (0 .. 24 by 1 .. 12; not above H of the TURN): told by upper(), lower(): 1.");
        LogsAfloat x = Logs.solid(10, 12, 12, 0);
        Edge.told(x, "room(0, 24, 2)", 144, 1);
        Edge.told(x, "room(0, 12, 1)", 144, 1);
        Edge.told(x, "room(0, 1, 12)", 1, 1);
        Edge.told(x, "room(0, 24, 12)", 24, 1);
        Edge.told(x, "room(0, 24, 11)", 288, 11);
        Edge.told(x, "room(0, 23, 2)", 138, 1);
        LogsAfloat flat = Logs.drawn(10, "555");
        Edge.told(flat, "room(0, 12, 12)", 3, 1);
        Edge.told(flat, "room(1, 3, 1)", 3, 1);
        Edge.told(flat, "room(3, 24, 8)", 3, 1);
        // a height of a row's end told in many parts is still not above it
        LogsAfloat boat = Logs.boat();
        Edge.told(boat, "room(0, 24, 12)", 8, 1);
        Edge.told(boat, "room(0, 4, 2)", 8, 1);
        Edge.told(boat, "room(0, 24, 8)", 7, 1);
    }

    private static void roomBad() {
        Edge.of(30, "BAD: also these.");
        LogsAfloat x = Logs.solid(10, 12, 12, 0);
        Edge.refused(x, Edge.BAD, "room(0, -1, 1)", "room(0, 25, 12)", "room(0, 25, 1)", "room(0, 1, 0)", "room(0, 1, -1)",
            "room(0, 1, 13)", "room(0, 0, 0)", "room(0, 0, 13)", "room(0, 13, 1)", "room(0, 24, 1)", "room(0, MIN, 1)",
            "room(0, MAX, 1)", "room(0, 1, MIN)", "room(0, 1, MAX)", "room(-1, 1, 1)", "room(4, 1, 1)");
        LogsAfloat flat = Logs.drawn(10, "555");
        Edge.refused(flat, Edge.BAD, "room(0, 13, 12)", "room(0, 2, 1)", "room(2, 24, 12)", "room(1, 4, 1)", "room(3, 10, 3)",
            "room(4, 0, 1)");
    }

    private static void roomOfNothing() {
        Edge.of(30, "(0 with height 0. No STATE, no SINKS.)");
        LogsAfloat none = new LogsAfloat();
        Edge.told(none, "room(0, 1, 1)", 0, 1);
        Edge.told(none, "room(3, 0, 1)", 0, 1);
        LogsAfloat light = Logs.drawn(10, "0");
        Edge.told(light, "room(0, 1, 3)", 1, 3);
        Edge.told(light, "room(0, 0, 1)", 0, 1);
        Edge.told(light, "room(0, 1, 3)", 1, 3);
        Edge.told(light, "room(0, 0, 12)", 0, 1);
        LogsAfloat heavy = Logs.drawn(1, "kk");
        Edge.told(heavy, "room(0, 1, 3)", 2, 3);
    }
}
