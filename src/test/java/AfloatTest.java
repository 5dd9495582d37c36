/** Promises 19 to 30: how the log lies in the water. */
public final class AfloatTest {
    private static final int BAD = LogsAfloat.BAD, STATE = LogsAfloat.STATE, SINKS = LogsAfloat.SINKS;

    public static void main(String[] args) {
        badTurns();
        badBesidesTurns();
        states();
        sinking();
        turnedSteps();
        draftsAndAbove();
        hollow();
        rim();
        waysIn();
        pointsInTurns();
        ropesPointUp();
        places();
        leans();
        lesserBreadth();
        breadthOfApartPlaces();
        holdsByLoad();
        holdsWithNoBreadth();
        holdsNotWhenLeaning();
        rests();
        carries();
        trim();
        trimFollowsTheDraft();
        room();
        Due.end();
    }

    /** Every call of a turn, in the order of the promises 19 to 26. */
    private static int call(LogsAfloat x, int promise, int turn) {
        switch (promise) {
            case 19: return x.floats(turn);
            case 20: return x.draft(turn);
            case 21: return x.above(turn);
            case 22: return x.middle(turn, 2);
            case 23: return x.place(turn, 0, 0);
            case 24: return x.leans(turn);
            case 25: return x.breadth(turn);
            default: return x.holds(turn);
        }
    }

    private static void badTurns() {
        LogsAfloat[] logs = {new LogsAfloat(), Logs.drawn(10, "5"), Logs.drawn(10, "k")};
        for (LogsAfloat x : logs) {
            for (int turn : new int[] {-1, 4, Integer.MIN_VALUE, Integer.MAX_VALUE}) {
                for (int promise = 19; promise <= 26; promise++) {
                    Due.is(promise, "turn " + turn, call(x, promise, turn), BAD);
                }
                Due.is(28, "carries(" + turn + ")", x.carries(turn), BAD);
                Due.is(29, "trim(" + turn + ", 1)", x.trim(turn, 1), BAD);
                Due.is(30, "room(" + turn + ", 1, 1)", x.room(turn, 1, 1), BAD);
            }
        }
    }

    private static void badBesidesTurns() {
        LogsAfloat[] logs = {new LogsAfloat(), Logs.drawn(10, "5"), Logs.drawn(10, "k")};
        for (LogsAfloat x : logs) {
            Due.is(22, "middle(0, 4)", x.middle(0, 4), BAD);
            Due.is(22, "middle(0, -1)", x.middle(0, -1), BAD);
            Due.is(23, "place(0, 1, 0)", x.place(0, 1, 0), BAD);
            Due.is(23, "place(0, 0, 1)", x.place(0, 0, 1), BAD);
            Due.is(23, "place(0, -1, 0)", x.place(0, -1, 0), BAD);
            Due.is(23, "place(0, 0, -1)", x.place(0, 0, -1), BAD);
            Due.is(29, "trim(0, 0)", x.trim(0, 0), BAD);
            Due.is(29, "trim(0, -1)", x.trim(0, -1), BAD);
            Due.is(29, "trim(0, 2001)", x.trim(0, 2001), BAD);
        }
    }

    private static void states() {
        LogsAfloat loadAlone = new LogsAfloat();
        loadAlone.load(0, 1, 1, 5);
        LogsAfloat[] logs = {new LogsAfloat(), loadAlone, Logs.drawn(10, "0")};
        for (LogsAfloat x : logs) {
            for (int promise = 19; promise <= 26; promise++) {
                Due.is(promise, "no squares, or no weight", call(x, promise, 3), STATE);
            }
            Due.is(27, "rests()", x.rests(), STATE);
        }
        for (int i = 0; i < 2; i++) {
            Due.is(28, "carries(0) without squares", logs[i].carries(0), STATE);
            Due.is(29, "trim(0, 1) without squares", logs[i].trim(0, 1), STATE);
            Due.is(29, "trim(0, 2000) without squares", logs[i].trim(0, 2000), STATE);
        }
    }

    private static void sinking() {
        LogsAfloat x = Logs.drawn(10, "b");
        for (int promise = 19; promise <= 26; promise++) {
            Due.is(promise, "a square heavier than water", call(x, promise, 1), SINKS);
        }
        Due.is(28, "carries(0)", x.carries(0), SINKS);
        Due.is(29, "trim(0, 1)", x.trim(0, 1), SINKS);
        Due.is(27, "rests()", x.rests(), 0);
        x.water(11);
        Due.is(19, "floats(1)", x.floats(1), 1);
        Due.is(28, "carries(0)", x.carries(0), 0);
    }

    /** Worked out by hand for each turn: draft, above, B, G, leans, breadth. */
    private static void turnedSteps() {
        LogsAfloat x = Logs.drawn(10, "5..", "555");
        long[][] draft = {{2, 3}, {1, 1}, {4, 3}, {2, 1}};
        long[][] above = {{4, 3}, {2, 1}, {2, 3}, {1, 1}};
        long[][] middles = {{3, 2, 1, 3, 5, 4, 3, 4}, {1, 1, 1, 2, 5, 4, 5, 4}, {2, 1, 5, 6, 7, 4, 5, 4},
            {1, 2, 1, 1, 3, 4, 7, 4}};
        int[] leans = {1, 2, 1, 2};
        long[][] breadth = {{9, 4}, {1, 12}, {9, 4}, {1, 12}};
        for (int turn = 0; turn < 4; turn++) {
            Due.is(19, "floats(" + turn + ")", x.floats(turn), 1);
            Due.told(20, "draft(" + turn + ")", x.draft(turn), x, draft[turn][0], draft[turn][1]);
            Due.told(21, "above(" + turn + ")", x.above(turn), x, above[turn][0], above[turn][1]);
            for (int what = 0; what < 4; what++) {
                String call = "middle(" + turn + ", " + what + ")";
                Due.told(22, call, x.middle(turn, what), x, middles[turn][2 * what], middles[turn][2 * what + 1]);
            }
            Due.is(24, "leans(" + turn + ")", x.leans(turn), leans[turn]);
            Due.told(25, "breadth(" + turn + ")", x.breadth(turn), x, breadth[turn][0], breadth[turn][1]);
            Due.is(26, "holds(" + turn + ")", x.holds(turn), 0);
        }
    }

    private static void draftsAndAbove() {
        LogsAfloat x = Logs.drawn(20, "1");
        Due.told(20, "draft(0)", x.draft(0), x, 1, 20);
        Due.told(21, "above(0)", x.above(0), x, 19, 20);
        x.square(0, 0, 20);
        Due.told(20, "draft(0) of all its height", x.draft(0), x, 1, 1);
        Due.told(21, "above(0): nothing", x.above(0), x, 0, 1);
    }

    private static void hollow() {
        LogsAfloat x = Logs.drawn(10, "111", "1.1", "111");
        Due.told(20, "draft(0)", x.draft(0), x, 4, 15);
        Due.is(28, "carries(0) with what is dry inside", x.carries(0), 82);
        x.load(0, 3, 3, 52);
        Due.told(20, "draft(0) with a load", x.draft(0), x, 2, 1);
        Due.is(23, "place(0, 1, 1): dry", x.place(0, 1, 1), 3);
        Due.is(23, "place(0, 0, 1): a square", x.place(0, 0, 1), 2);
        Due.is(23, "place(0, 1, 2): above", x.place(0, 1, 2), 0);
        x.square(2, 1, LogsAfloat.NONE);
        Due.is(23, "place(0, 1, 1): by the side's hole", x.place(0, 1, 1), 1);
        Due.is(23, "place(0, 2, 1)", x.place(0, 2, 1), 1);
        Due.told(20, "draft(0) with a hole", x.draft(0), x, 79, 30);
    }

    private static void rim() {
        LogsAfloat x = Logs.boat();
        Due.told(20, "draft(0)", x.draft(0), x, 7, 40);
        Due.is(28, "carries(0)", x.carries(0), 73);
        x.load(0, 4, 0, 58);
        // 13/2 is the room of 13/8 and, with the boat full, of 5/2 too
        Due.told(20, "draft(0): the least", x.draft(0), x, 13, 8);
        Due.is(23, "place(0, 1, 1): dry", x.place(0, 1, 1), 3);
        x.load(0, 4, 0, 15);
        Due.told(20, "draft(0) at the rim", x.draft(0), x, 2, 1);
        Due.is(23, "place(0, 1, 1): still dry", x.place(0, 1, 1), 3);
        Due.is(23, "place(0, 1, 2): above", x.place(0, 1, 2), 0);
        Due.told(25, "breadth(0) at the rim", x.breadth(0), x, 1, 12);
        Due.is(23, "place(0, 1, 1) after breadth", x.place(0, 1, 1), 3);
        Due.is(28, "carries(0)", x.carries(0), 0);
        x.load(0, 4, 0, 1);
        Due.is(19, "floats(0)", x.floats(0), SINKS);
        Due.is(28, "carries(0)", x.carries(0), SINKS);
    }

    private static void waysIn() {
        LogsAfloat x = Logs.drawn(20, "555", "5.5", "5.5", "555");
        Due.told(30, "room(0, 3, 1) closed", x.room(0, 3, 1), x, 9, 1);
        x.square(1, 0, LogsAfloat.NONE);
        Due.told(30, "room(0, 3, 1) open below", x.room(0, 3, 1), x, 6, 1);
        Due.told(30, "room(2, 3, 1) open above", x.room(2, 3, 1), x, 9, 1);
        Due.told(30, "room(2, 4, 1): no way in from the top", x.room(2, 4, 1), x, 12, 1);
        // places that touch by a corner do not hang together
        LogsAfloat corner = Logs.drawn(20, "555", "5.5", ".55", "555");
        Due.told(30, "room(0, 4, 1) by a corner", corner.room(0, 4, 1), corner, 11, 1);
        // the way goes up to row 2 and down again: it opens only as the water stands there
        LogsAfloat bent = Logs.drawn(20, "55555", ".....", "5.555", "55555");
        Due.told(30, "room(0, 2, 1) before", bent.room(0, 2, 1), bent, 10, 1);
        Due.told(30, "room(0, 9, 4) behind", bent.room(0, 9, 4), bent, 9, 1);
    }

    private static void pointsInTurns() {
        LogsAfloat x = Logs.drawn(10, "000", "000");
        x.load(0, 1, 3, 10);
        long[][] due = {{1, 2, 3, 2}, {1, 2, 1, 2}, {5, 2, 1, 2}, {3, 2, 5, 2}};
        for (int turn = 0; turn < 4; turn++) {
            Due.told(22, "middle(" + turn + ", 2)", x.middle(turn, 2), x, due[turn][0], due[turn][1]);
            Due.told(22, "middle(" + turn + ", 3)", x.middle(turn, 3), x, due[turn][2], due[turn][3]);
        }
        x.move(0, 24, 23);
        Due.told(22, "middle(1, 2) beside the log", x.middle(1, 2), x, -19, 2);
        Due.told(22, "middle(1, 3) beside the log", x.middle(1, 3), x, 12, 1);
        Due.told(22, "middle(2, 3) beside the log", x.middle(2, 3), x, -19, 2);
        Due.told(22, "middle(3, 3) beside the log", x.middle(3, 3), x, -9, 1);
        LogsAfloat high = Logs.drawn(10, "0", "0", "0", "0", "0");
        high.load(0, 1, 2, 10);
        Due.told(22, "middle(1, 2) of a high one", high.middle(1, 2), high, 4, 1);
        Due.told(22, "middle(2, 3) of a high one", high.middle(2, 3), high, 4, 1);
    }

    private static void ropesPointUp() {
        LogsAfloat x = Logs.drawn(10, "000", "000");
        x.load(1, 1, 3, 10);
        x.rope(0, 5);
        long[][] due = {{1, 2, 4, 1}, {1, 2, 3, 1}, {5, 2, 3, 1}, {3, 2, 5, 1}};
        for (int turn = 0; turn < 4; turn++) {
            Due.told(13, "middle(" + turn + ", 2)", x.middle(turn, 2), x, due[turn][0], due[turn][1]);
            Due.told(13, "middle(" + turn + ", 3)", x.middle(turn, 3), x, due[turn][2], due[turn][3]);
        }
    }

    private static void places() {
        LogsAfloat x = Logs.drawn(10, "5..", "555");
        Due.is(23, "place(2, 0, 0): wet", x.place(2, 0, 0), 1);
        Due.is(23, "place(2, 1, 0): wet", x.place(2, 1, 0), 1);
        Due.is(23, "place(2, 2, 0): a square", x.place(2, 2, 0), 2);
        Due.is(23, "place(2, 0, 1): a square", x.place(2, 0, 1), 2);
        Due.is(23, "place(0, 0, 1): above", x.place(0, 0, 1), 0);
        Due.is(23, "place(3, 1, 0): wet", x.place(3, 1, 0), 1);
        Due.is(23, "place(3, 1, 2): above, at a row's end", x.place(3, 1, 2), 0);
        Due.is(23, "place(1, 1, 2)", x.place(1, 1, 2), 0);
        Due.is(23, "place(1, 2, 1)", x.place(1, 2, 1), BAD);
        Due.is(23, "place(1, 0, 3)", x.place(1, 0, 3), BAD);
        Due.is(23, "place(0, 0, 2)", x.place(0, 0, 2), BAD);
        Due.is(23, "place(0, 3, 0)", x.place(0, 3, 0), BAD);
    }

    private static void leans() {
        LogsAfloat x = Logs.drawn(10, "5555", "5555");
        Due.is(24, "leans(0)", x.leans(0), 0);
        x.load(0, 3, 4, 1);
        Due.is(24, "leans(0) to the left", x.leans(0), 1);
        x.move(0, 5, 4);
        Due.is(24, "leans(0) to the right", x.leans(0), 2);
        Due.is(24, "leans(2)", x.leans(2), 1);
        x.load(0, 3, 0, 1);
        Due.is(24, "leans(0) with both", x.leans(0), 0);
    }

    private static void lesserBreadth() {
        // at h 1 just: row 0 has 1 place, row 1 has 3, and in turn 2 the other way round
        LogsAfloat narrowBelow = Logs.drawn(10, "222", ".4.");
        Due.told(20, "draft(0)", narrowBelow.draft(0), narrowBelow, 1, 1);
        Due.told(25, "breadth(0)", narrowBelow.breadth(0), narrowBelow, 1, 12);
        LogsAfloat narrowAbove = Logs.drawn(10, ".6.", "888");
        Due.told(20, "draft(0)", narrowAbove.draft(0), narrowAbove, 1, 1);
        Due.told(25, "breadth(0)", narrowAbove.breadth(0), narrowAbove, 1, 12);
        LogsAfloat within = Logs.drawn(10, ".5.", "888");
        Due.told(25, "breadth(0) within a row", within.breadth(0), within, 9, 4);
        LogsAfloat top = Logs.drawn(10, "aaa");
        Due.told(25, "breadth(0) at the top", top.breadth(0), top, 9, 4);
    }

    private static void breadthOfApartPlaces() {
        LogsAfloat x = Logs.drawn(10, "5..5");
        // 1/3 of the left place and 37/3 of the right one, less 2 times the square of 2
        Due.told(25, "breadth(0)", x.breadth(0), x, 14, 3);
        LogsAfloat dry = Logs.drawn(10, "1111", "1..1", "1111");
        dry.load(0, 4, 0, 50);
        Due.told(25, "breadth(0) with dry places", dry.breadth(0), dry, 16, 3);
    }

    private static void holdsByLoad() {
        LogsAfloat x = Logs.drawn(10, "444444", "444444", "444444", "444444", "444444");
        Due.is(26, "holds(0): alike", x.holds(0), 1);
        x.load(0, 6, 0, 1);
        Due.is(26, "holds(0): with a weight below", x.holds(0), 2);
        x.move(0, 6, 24);
        Due.is(26, "holds(0): with a weight above", x.holds(0), 0);
        LogsAfloat hung = Logs.drawn(10, "5555", "5555");
        hung.load(1, 4, 4, 20);
        Due.is(26, "holds(0): hanging at its point", hung.holds(0), 2);
        hung.rope(0, 20);
        Due.is(26, "holds(0): acting above it", hung.holds(0), 0);
    }

    private static void holdsWithNoBreadth() {
        LogsAfloat x = Logs.drawn(10, ".", "5");
        x.load(0, 1, 1, 5);
        Due.told(25, "breadth(0): none above", x.breadth(0), x, 0, 1);
        Due.is(26, "holds(0): G is B", x.holds(0), 1);
        x.move(0, 1, 0);
        Due.is(26, "holds(0): G is below B", x.holds(0), 2);
        x.move(0, 1, 2);
        Due.is(26, "holds(0): G is above B", x.holds(0), 0);
    }

    private static void holdsNotWhenLeaning() {
        LogsAfloat x = Logs.drawn(10, "55555555");
        Due.is(26, "holds(0)", x.holds(0), 2);
        x.square(0, 0, 6);
        Due.is(26, "holds(0) as it leans", x.holds(0), 0);
    }

    private static void rests() {
        Due.is(27, "rests() of a flat one", Logs.drawn(10, "5555", "5555").rests(), 5);
        Due.is(27, "rests() of an upright one", Logs.drawn(10, "55", "55", "55", "55").rests(), 10);
        LogsAfloat x = Logs.drawn(10, "1..1", "1111");
        x.load(0, 4, 0, 60);
        Due.is(27, "rests(): it sinks in all other turns", x.rests(), 1);
        Due.is(19, "floats(2)", x.floats(2), SINKS);
        LogsAfloat alike = Logs.drawn(10, "444444", "444444", "444444", "444444", "444444");
        Due.is(27, "rests(): HOLDS 1 is no rest", alike.rests(), 0);
    }

    private static void carries() {
        LogsAfloat x = Logs.drawn(7, "000", "0.0", "000");
        Due.is(28, "carries(0) of no weight", x.carries(0), 63);
        x.load(0, 3, 3, 63);
        Due.is(28, "carries(0) of all", x.carries(0), 0);
        x.load(0, 3, 3, 1);
        Due.is(28, "carries(0)", x.carries(0), SINKS);
        LogsAfloat open = Logs.drawn(10, "1..1", "1111");
        int[] due = {74, 54, 54, 54};
        for (int turn = 0; turn < 4; turn++) {
            Due.is(28, "carries(" + turn + ")", open.carries(turn), due[turn]);
        }
    }

    private static void trim() {
        LogsAfloat x = Logs.drawn(10, "5555", "5555");
        Due.told(29, "trim(0, 40)", x.trim(0, 40), x, 2, 1);
        Due.is(29, "trim(0, 41)", x.trim(0, 41), SINKS);
        x.load(0, 24, 0, 10);
        Due.told(29, "trim(0, 1) beside the log", x.trim(0, 1), x, -98, 1);
        Due.told(29, "trim(2, 1) beside the log", x.trim(2, 1), x, 102, 1);
        LogsAfloat light = Logs.drawn(10, "00");
        Due.told(29, "trim(0, 5) of no weight", light.trim(0, 5), light, 1, 1);
        LogsAfloat large = new LogsAfloat();
        large.log(12, 12);
        large.water(20);
        for (int i = 0; i < 144; i++) {
            large.square(i % 12, i / 12, 1);
        }
        Due.told(29, "trim(1, 2000)", large.trim(1, 2000), large, 6, 1);
    }

    private static void trimFollowsTheDraft() {
        LogsAfloat x = Logs.drawn(10, "5..", "555");
        Due.told(29, "trim(0, 10)", x.trim(0, 10), x, 2, 1);
        Due.told(29, "trim(0, 15)", x.trim(0, 15), x, 3, 2);
        Due.told(29, "trim(0, 20)", x.trim(0, 20), x, 5, 4);
        x.load(0, 3, 0, 15);
        Due.is(24, "leans(0) with the weight there", x.leans(0), 0);
    }

    private static void room() {
        LogsAfloat x = Logs.boat();
        long[][] due = {{0, 1, 0, 1}, {1, 2, 2, 1}, {1, 1, 4, 1}, {1, 12, 1, 3}, {2, 1, 8, 1}, {5, 2, 13, 2}, {3, 1, 7, 1},
            {24, 12, 8, 1}, {24, 8, 7, 1}, {9, 4, 25, 4}};
        for (long[] d : due) {
            int u = (int) d[0];
            int l = (int) d[1];
            Due.told(30, "room(0, " + u + ", " + l + ")", x.room(0, u, l), x, d[2], d[3]);
        }
        int[][] bad = {{-1, 1}, {25, 12}, {1, 0}, {1, 13}, {1, -1}, {4, 1}, {7, 2}, {0, 0}, {0, 13}};
        for (int[] b : bad) {
            Due.is(30, "room(0, " + b[0] + ", " + b[1] + ")", x.room(0, b[0], b[1]), BAD);
        }
        Due.told(30, "room(1, 4, 1)", x.room(1, 4, 1), x, 7, 1);
        Due.is(30, "room(1, 5, 1)", x.room(1, 5, 1), BAD);
        LogsAfloat none = new LogsAfloat();
        Due.told(30, "room(0, 1, 1) without squares", none.room(0, 1, 1), none, 0, 1);
        LogsAfloat heavy = Logs.drawn(1, "kk");
        Due.told(30, "room(0, 1, 3) of what sinks", heavy.room(0, 1, 3), heavy, 2, 3);
    }
}
