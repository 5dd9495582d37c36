/** Promises 1 to 10, 17 and 18 at their edges. */
final class LogEdges {
    private static final String LOG = "THE LOG has w by h places, no SQUARES, no LOADS (none ever): w times h.";
    private static final String COPY = "n bytes of a SHEET, from one on, come to those of another one (perhaps itself) from one on, as"
        + " if taken ahead: 1.";

    private LogEdges() {
    }

    static void run() {
        newLog();
        newWithoutLoadsAndSheets();
        log();
        logWithoutSquares();
        logWithoutLoads();
        logBad();
        square();
        squareBad();
        at();
        atBad();
        water();
        waterBad();
        sheet();
        sheetBad();
        sheetSize();
        lay();
        layBad();
        layNothing();
        layBeyond();
        tear();
        tearBad();
        tearNothing();
        copy();
        copyOntoItself();
        copyBad();
        copyNothing();
        copyBeyond();
        copyWrapsNowhere();
        fill();
        fillBad();
        fillNothing();
        fillBeyond();
        all();
        mean();
        meanNought();
    }

    private static void newLog() {
        Edge.of(1, "A LOG of one place without a SQUARE;");
        LogsAfloat x = new LogsAfloat();
        Edge.is(x, "count(0)", 1);
        Edge.is(x, "count(1)", 1);
        Edge.is(x, "count(2)", 0);
        Edge.is(x, "at(0, 0)", Edge.NONE);
        Edge.refused(x, Edge.BAD, "at(1, 0)", "at(0, 1)", "at(-1, 0)", "at(0, -1)");
    }

    private static void newWithoutLoadsAndSheets() {
        Edge.of(1, "no LOADS, no SHEETS.");
        LogsAfloat x = new LogsAfloat();
        Edge.is(x, "count(3)", 0);
        Edge.is(x, "count(4)", 0);
        Edge.refused(x, Edge.BAD, "told(0, 0)", "drop(0)");
        for (int s = 0; s <= 5; s++) {
            Edge.finds(x, Edge.NOTHING, "tear(" + s + ")");
        }
    }

    private static void log() {
        Edge.of(2, LOG);
        LogsAfloat x = new LogsAfloat();
        int[][] sizes = {{1, 1}, {12, 12}, {12, 1}, {1, 12}};
        for (int[] size : sizes) {
            Edge.is(x, "log(" + size[0] + ", " + size[1] + ")", size[0] * size[1]);
            Edge.is(x, "count(0)", size[0]);
            Edge.is(x, "count(1)", size[1]);
            Edge.is(x, "at(" + (size[0] - 1) + ", " + (size[1] - 1) + ")", Edge.NONE);
            Edge.is(x, "at(" + size[0] + ", 0)", Edge.BAD);
            Edge.is(x, "at(0, " + size[1] + ")", Edge.BAD);
        }
    }

    private static void logWithoutSquares() {
        Edge.of(2, LOG);
        LogsAfloat x = Logs.solid(10, 12, 12, 20);
        Edge.is(x, "log(12, 12)", 144);
        Edge.is(x, "count(2)", 0);
        Edge.is(x, "at(11, 11)", Edge.NONE);
        x.square(11, 11, 5);
        // what lay beside a smaller log does not come back
        Edge.is(x, "log(1, 1)", 1);
        Edge.is(x, "count(2)", 0);
        Edge.is(x, "all()", 0);
        Edge.is(x, "log(12, 12)", 144);
        Edge.is(x, "at(11, 11)", Edge.NONE);
    }

    private static void logWithoutLoads() {
        Edge.of(2, LOG);
        LogsAfloat x = new LogsAfloat();
        for (int i = 0; i < 10; i++) {
            x.load(1, 24, 1, 20);
            x.rope(i, 20);
        }
        x.drop(9);
        Edge.refused(x, Edge.FULL, "load(0, 0, 0, 0)");
        Edge.is(x, "log(1, 1)", 1);
        Edge.is(x, "count(3)", 0);
        Edge.is(x, "count(4)", 0);
        Edge.is(x, "all()", 0);
        Edge.refused(x, Edge.BAD, "drop(0)", "drop(9)", "rope(0, 1)", "move(0, 0, 0)", "told(0, 0)", "is(0, 0)");
        for (int i = 0; i < 10; i++) {
            Edge.is(x, "load(1, 24, 1, 7)", i);
        }
        Edge.is(x, "told(9, 4)", 0);
        Edge.refused(x, Edge.FULL, "load(0, 0, 0, 0)");
        // loads of before weigh nowhere
        x.log(1, 1);
        x.square(0, 0, 5);
        x.load(0, 1, 1, 0);
        Edge.told(x, "middle(0, 2)", 1, 2);
        Edge.told(x, "middle(0, 3)", 1, 2);
        Edge.told(x, "trim(0, 5)", 1, 2);
        // of the rest it tells nothing: it stays
        x.sheet(5, 1);
        x.water(3);
        Edge.is(x, "log(2, 2)", 4);
        Edge.is(x, "water(3)", 3);
        Edge.is(x, "tear(5)", 1);
    }

    private static void logBad() {
        Edge.of(2, "BAD.");
        LogsAfloat x = Logs.drawn(10, "5.", ".5");
        x.load(0, 1, 1, 1);
        // 65536 times 65536 wraps around to 0
        Edge.refused(x, Edge.BAD, "log(0, 1)", "log(1, 0)", "log(13, 1)", "log(1, 13)", "log(-1, 1)", "log(1, -1)",
            "log(-1, -1)", "log(MIN, 1)", "log(1, MAX)", "log(65536, 65536)", "log(0, 13)");
    }

    private static void square() {
        Edge.of(3, "A place has a SQUARE of a WEIGHT (NONE: none): what it had (NONE).");
        LogsAfloat x = new LogsAfloat();
        x.log(3, 2);
        Edge.is(x, "square(2, 1, NONE)", Edge.NONE);
        Edge.is(x, "square(2, 1, 0)", Edge.NONE);
        Edge.is(x, "square(2, 1, 0)", 0);
        Edge.is(x, "square(2, 1, 20)", 0);
        Edge.is(x, "square(2, 1, NONE)", 20);
        Edge.is(x, "square(2, 1, 1)", Edge.NONE);
        Edge.is(x, "square(0, 0, 2)", Edge.NONE);
        Edge.is(x, "count(2)", 2);
    }

    private static void squareBad() {
        Edge.of(3, "BAD.");
        LogsAfloat x = Logs.drawn(10, "555", "555");
        Edge.refused(x, Edge.BAD, "square(3, 0, 1)", "square(0, 2, 1)", "square(-1, 0, 1)", "square(0, -1, 1)",
            "square(2, 2, 1)", "square(3, 1, 1)", "square(0, 0, 21)", "square(0, 0, -1)", "square(0, 0, -8)",
            "square(0, 0, -10)", "square(MIN, 0, 1)", "square(0, MAX, 1)", "square(0, 0, MAX)", "square(3, 0, NONE)");
    }

    private static void at() {
        Edge.of(4, "The WEIGHT of the SQUARE at a place; NONE: none.");
        LogsAfloat x = Logs.drawn(10, "k.3", "0.4");
        int[] due = {0, Edge.NONE, 4, 20, Edge.NONE, 3};
        for (int i = 0; i < 6; i++) {
            Edge.is(x, "at(" + i % 3 + ", " + i / 3 + ")", due[i]);
        }
    }

    private static void atBad() {
        Edge.of(4, "BAD.");
        LogsAfloat x = Logs.drawn(10, "555", "555");
        Edge.refused(x, Edge.BAD, "at(3, 0)", "at(0, 2)", "at(-1, 0)", "at(0, -1)", "at(2, 2)", "at(3, 1)", "at(MIN, 0)",
            "at(0, MAX)");
    }

    private static void water() {
        Edge.of(5, "WATER weighs d: what it did.");
        LogsAfloat x = new LogsAfloat();
        Edge.is(x, "water(1)", 10);
        Edge.is(x, "water(20)", 1);
        Edge.is(x, "water(20)", 20);
        Edge.is(x, "water(10)", 20);
    }

    private static void waterBad() {
        Edge.of(5, "BAD.");
        Edge.refused(new LogsAfloat(), Edge.BAD, "water(0)", "water(21)", "water(-1)", "water(MIN)", "water(MAX)");
    }

    private static void sheet() {
        Edge.of(6, "A SHEET is there with n bytes 0: n.");
        LogsAfloat x = new LogsAfloat();
        Edge.is(x, "sheet(0, 0)", 0);
        Edge.is(x, "tear(0)", 1);
        Edge.is(x, "sheet(5, 12)", 12);
        for (int i = 0; i < 12; i++) {
            x.lay(5, i, i + 1);
        }
        // a shorter one, then one as long as before: what was there is gone
        Edge.is(x, "sheet(5, 1)", 1);
        Edge.is(x, "lay(5, 0, 9)", 1000);
        Edge.is(x, "lay(5, 1, 9)", Edge.FINDING);
        Edge.is(x, "sheet(5, 12)", 12);
        for (int i = 0; i < 12; i++) {
            Edge.is(x, "lay(5, " + i + ", 1)", 1000);
        }
        // torn and there again
        x.tear(5);
        Edge.is(x, "sheet(5, 12)", 12);
        Edge.is(x, "lay(5, 11, 1)", 1000);
    }

    private static void sheetBad() {
        Edge.of(6, "BAD: n above 12;");
        LogsAfloat x = new LogsAfloat();
        x.sheet(5, 12);
        x.lay(5, 11, 7);
        Edge.refused(x, Edge.BAD, "sheet(5, 13)", "sheet(0, 13)", "sheet(5, MAX)", "sheet(6, 1)", "sheet(-1, 1)",
            "sheet(MIN, 1)", "sheet(MAX, 1)", "sheet(6, -1)");
    }

    private static void sheetSize() {
        Edge.of(6, "SIZE.");
        LogsAfloat x = new LogsAfloat();
        x.sheet(5, 12);
        x.lay(5, 11, 7);
        Edge.finds(x, Edge.SIZE, "sheet(5, -1)", "sheet(5, MIN)", "sheet(0, -1)");
        Edge.is(x, "tear(0)", Edge.FINDING);
    }

    private static void lay() {
        Edge.of(7, "Byte i of a SHEET is v, cut to a byte: what it was, and 1000 more.");
        LogsAfloat x = new LogsAfloat();
        x.sheet(0, 12);
        int[] bytes = {0, 127, -128, -1, 0, 0, 127, 0, -1, 1};
        String[] vs = {"0", "127", "128", "255", "256", "MIN", "-129", "65536", "MAX", "-255"};
        for (int i = 0; i < vs.length; i++) {
            Edge.is(x, "lay(0, 0, " + vs[i] + ")", 1000 + (i == 0 ? 0 : bytes[i - 1]));
            Edge.is(x, "lay(0, 11, " + vs[i] + ")", 1000 + (i == 0 ? 0 : bytes[i - 1]));
        }
        Edge.is(x, "lay(0, 0, -128)", 1001);
        Edge.is(x, "lay(0, 0, 0)", 872);
        Edge.is(x, "lay(0, 1, 0)", 1000);
        Edge.is(x, "lay(0, 10, 0)", 1000);
    }

    private static void layBad() {
        Edge.of(7, "BAD;");
        LogsAfloat x = new LogsAfloat();
        Edge.refused(x, Edge.BAD, "lay(-1, 0, 0)", "lay(6, 0, 0)", "lay(MIN, 0, 0)", "lay(MAX, 0, 0)", "lay(6, 12, 0)");
    }

    private static void layNothing() {
        Edge.of(7, "NOTHING;");
        LogsAfloat x = new LogsAfloat();
        // ahead of BEYOND
        Edge.finds(x, Edge.NOTHING, "lay(0, 0, 0)", "lay(5, 12, 0)", "lay(5, -1, 0)");
    }

    private static void layBeyond() {
        Edge.of(7, "BEYOND.");
        LogsAfloat x = new LogsAfloat();
        x.sheet(0, 0);
        x.sheet(1, 3);
        x.sheet(5, 12);
        Edge.finds(x, Edge.BEYOND, "lay(0, 0, 1)", "lay(1, 3, 1)", "lay(1, -1, 1)", "lay(5, 12, 1)", "lay(1, MIN, 1)",
            "lay(1, MAX, 1)");
        Edge.is(x, "lay(1, 2, 1)", 1000);
    }

    private static void tear() {
        Edge.of(8, "A SHEET is missing: 1.");
        LogsAfloat x = new LogsAfloat();
        x.sheet(0, 0);
        x.sheet(5, 12);
        Edge.is(x, "tear(0)", 1);
        Edge.is(x, "lay(5, 11, 1)", 1000);
        Edge.is(x, "tear(5)", 1);
        Edge.finds(x, Edge.NOTHING, "lay(5, 11, 1)", "copy(5, 0, 5, 0, 0)", "fill(0, 5)");
    }

    private static void tearBad() {
        Edge.of(8, "BAD;");
        Edge.refused(new LogsAfloat(), Edge.BAD, "tear(-1)", "tear(6)", "tear(MIN)", "tear(MAX)");
    }

    private static void tearNothing() {
        Edge.of(8, "NOTHING.");
        LogsAfloat x = new LogsAfloat();
        x.sheet(5, 0);
        x.tear(5);
        Edge.finds(x, Edge.NOTHING, "tear(5)", "tear(5)", "tear(0)");
    }

    /** Sheet 0 has the bytes 1 to 12, sheet 1 four bytes 0, sheet 2 none. */
    private static LogsAfloat written() {
        LogsAfloat x = new LogsAfloat();
        x.sheet(0, 12);
        for (int i = 0; i < 12; i++) {
            x.lay(0, i, i + 1);
        }
        x.sheet(1, 4);
        x.sheet(2, 0);
        return x;
    }

    private static void reads(LogsAfloat x, int s, int... due) {
        for (int i = 0; i < due.length; i++) {
            Edge.is(x, "lay(" + s + ", " + i + ", 99)", 1000 + due[i]);
        }
    }

    private static void copy() {
        Edge.of(9, COPY);
        LogsAfloat x = written();
        // the first ones, the last ones, all, none
        Edge.is(x, "copy(0, 0, 1, 3, 1)", 1);
        Edge.is(x, "copy(0, 10, 1, 0, 2)", 1);
        reads(x, 1, 11, 12, 0, 1);
        Edge.is(x, "copy(0, 8, 1, 0, 4)", 1);
        reads(x, 1, 9, 10, 11, 12);
        x.sheet(3, 12);
        Edge.is(x, "copy(0, 0, 3, 0, 12)", 1);
        reads(x, 3, 1, 2, 3, 4, 5, 6, 7, 8, 9, 10, 11, 12);
        Edge.is(x, "copy(0, 12, 1, 4, 0)", 1);
        Edge.is(x, "copy(2, 0, 2, 0, 0)", 1);
        Edge.is(x, "copy(2, 0, 0, 0, 0)", 1);
        reads(x, 0, 1, 2, 3, 4, 5, 6, 7, 8, 9, 10, 11, 12);
    }

    private static void copyOntoItself() {
        Edge.of(9, COPY);
        LogsAfloat forth = written();
        Edge.is(forth, "copy(0, 0, 0, 1, 11)", 1);
        reads(forth, 0, 1, 1, 2, 3, 4, 5, 6, 7, 8, 9, 10, 11);
        LogsAfloat back = written();
        Edge.is(back, "copy(0, 1, 0, 0, 11)", 1);
        reads(back, 0, 2, 3, 4, 5, 6, 7, 8, 9, 10, 11, 12, 12);
        LogsAfloat same = written();
        Edge.is(same, "copy(0, 0, 0, 0, 12)", 1);
        reads(same, 0, 1, 2, 3, 4, 5, 6, 7, 8, 9, 10, 11, 12);
    }

    private static void copyBad() {
        Edge.of(9, "BAD;");
        LogsAfloat x = written();
        Edge.refused(x, Edge.BAD, "copy(-1, 0, 0, 0, 0)", "copy(6, 0, 0, 0, 0)", "copy(0, 0, -1, 0, 0)", "copy(0, 0, 6, 0, 0)",
            "copy(MIN, 0, MAX, 0, 0)", "copy(6, 0, 5, 0, -1)", "copy(5, 0, 6, 0, -1)");
    }

    private static void copyNothing() {
        Edge.of(9, "NOTHING: either;");
        LogsAfloat x = written();
        // ahead of BEYOND
        Edge.finds(x, Edge.NOTHING, "copy(5, 0, 0, 0, 0)", "copy(0, 0, 5, 0, 0)", "copy(5, 0, 5, 0, 0)", "copy(4, 0, 5, 0, 0)",
            "copy(5, 0, 0, 0, -1)", "copy(0, 13, 5, 0, 0)");
    }

    private static void copyBeyond() {
        Edge.of(9, "BEYOND: not so many there (a place, n below 0, too).");
        LogsAfloat x = written();
        // too many of the one, of the other, of both
        Edge.finds(x, Edge.BEYOND, "copy(1, 0, 0, 0, 5)", "copy(0, 0, 1, 0, 5)", "copy(0, 0, 0, 0, 13)", "copy(1, 4, 0, 0, 1)",
            "copy(0, 0, 1, 4, 1)", "copy(1, 1, 0, 0, 4)", "copy(0, 0, 1, 1, 4)", "copy(2, 0, 0, 0, 1)", "copy(0, 0, 2, 0, 1)");
        // no such place
        Edge.finds(x, Edge.BEYOND, "copy(0, -1, 1, 0, 1)", "copy(0, 0, 1, -1, 1)", "copy(0, -1, 1, 0, 0)", "copy(0, 0, 1, -1, 0)",
            "copy(0, 13, 1, 0, 0)", "copy(0, 0, 1, 5, 0)");
        LogsAfloat y = written();
        Edge.finds(y, Edge.BEYOND, "copy(0, 0, 1, 0, -1)", "copy(0, 3, 1, 3, -1)", "copy(2, 0, 2, 0, -1)", "copy(0, 0, 0, 0, MIN)");
    }

    private static void copyWrapsNowhere() {
        Edge.of(9, "BEYOND: not so many there (a place, n below 0, too).");
        LogsAfloat x = written();
        // a place and n whose sum wraps around to a small number, or below 0
        Edge.finds(x, Edge.BEYOND, "copy(0, MAX, 1, 0, 1)", "copy(0, 0, 1, MAX, 1)", "copy(0, 1, 1, 1, MAX)", "copy(0, MAX, 1, MAX, MAX)",
            "copy(0, MIN, 1, 0, MIN)", "copy(0, MIN, 1, MIN, 1)", "copy(0, MAX, 1, 0, 0)");
    }

    private static void fill() {
        Edge.of(10, "ROW y becomes what the first W bytes of a SHEET tell: below 0 no SQUARE, else its WEIGHT, at most 20: how many"
            + " SQUARES it has.");
        LogsAfloat x = Logs.solid(10, 6, 3, 9);
        x.sheet(0, 7);
        int[] bytes = {-128, -1, 0, 20, 21, 127, 5};
        int[] due = {Edge.NONE, Edge.NONE, 0, 20, 20, 20};
        for (int i = 0; i < 7; i++) {
            x.lay(0, i, bytes[i]);
        }
        Edge.is(x, "fill(2, 0)", 4);
        Edge.is(x, "fill(0, 0)", 4);
        for (int i = 0; i < 6; i++) {
            Edge.is(x, "at(" + i + ", 0)", due[i]);
            Edge.is(x, "at(" + i + ", 1)", 9);
            Edge.is(x, "at(" + i + ", 2)", due[i]);
        }
        Edge.is(x, "count(2)", 14);
        // all of them, none of them
        x.log(12, 12);
        x.sheet(1, 12);
        Edge.is(x, "fill(11, 1)", 12);
        for (int i = 0; i < 12; i++) {
            x.lay(1, i, 200);
        }
        Edge.is(x, "fill(11, 1)", 0);
        Edge.is(x, "count(2)", 0);
    }

    private static void fillBad() {
        Edge.of(10, "BAD;");
        LogsAfloat x = Logs.drawn(10, "555", "555");
        x.sheet(0, 12);
        Edge.refused(x, Edge.BAD, "fill(-1, 0)", "fill(2, 0)", "fill(MIN, 0)", "fill(MAX, 0)", "fill(0, -1)", "fill(0, 6)",
            "fill(0, MIN)", "fill(0, MAX)", "fill(2, 5)");
        LogsAfloat high = Logs.drawn(10, "5", "5", "5");
        high.sheet(0, 1);
        Edge.is(high, "fill(2, 0)", 1);
        Edge.refused(high, Edge.BAD, "fill(3, 0)");
    }

    private static void fillNothing() {
        Edge.of(10, "NOTHING;");
        LogsAfloat x = Logs.drawn(10, "5");
        Edge.finds(x, Edge.NOTHING, "fill(0, 0)", "fill(0, 5)");
    }

    private static void fillBeyond() {
        Edge.of(10, "BEYOND: it has fewer.");
        LogsAfloat x = Logs.drawn(10, "555", "555", "555", "555");
        x.sheet(0, 2);
        x.sheet(1, 0);
        x.sheet(2, 3);
        Edge.finds(x, Edge.BEYOND, "fill(0, 0)", "fill(3, 1)");
        Edge.is(x, "fill(3, 2)", 3);
        LogsAfloat wide = new LogsAfloat();
        wide.log(12, 1);
        wide.sheet(0, 11);
        Edge.finds(wide, Edge.BEYOND, "fill(0, 0)");
    }

    private static void all() {
        Edge.of(17, "ALL.");
        LogsAfloat x = new LogsAfloat();
        Edge.is(x, "all()", 0);
        x.square(0, 0, 0);
        Edge.is(x, "all()", 0);
        x.load(0, 24, 24, 1);
        Edge.is(x, "all()", 1);
        x.square(0, 0, 20);
        Edge.is(x, "all()", 21);
        x.drop(0);
        Edge.is(x, "all()", 20);
        x.square(0, 0, Edge.NONE);
        Edge.is(x, "all()", 0);
    }

    private static void mean() {
        Edge.of(18, "The mean WEIGHT of its SQUARES, cut.");
        Edge.is(Logs.solid(10, 12, 12, 20), "mean()", 20);
        Edge.is(Logs.drawn(10, "0"), "mean()", 0);
        Edge.is(Logs.drawn(10, "001"), "mean()", 0);
        Edge.is(Logs.drawn(10, "kkj"), "mean()", 19);
        LogsAfloat x = Logs.drawn(10, "5..");
        x.load(0, 0, 0, 200);
        Edge.is(x, "mean()", 5);
    }

    private static void meanNought() {
        Edge.of(18, "NOUGHT.");
        LogsAfloat x = new LogsAfloat();
        x.load(0, 0, 0, 200);
        Edge.finds(x, Edge.NOUGHT, "mean()");
        x.square(0, 0, 3);
        Edge.is(x, "mean()", 3);
        x.square(0, 0, Edge.NONE);
        Edge.finds(x, Edge.NOUGHT, "mean()", "mean()");
    }
}
