/** Promises 1 to 10, 17 and 18: the log, the water, the sheets, and what all weighs. */
public final class LogTest {
    private static final int BAD = LogsAfloat.BAD, NONE = LogsAfloat.NONE;
    private static final int NOTHING = 1, BEYOND = 2, NOUGHT = 4, SIZE = 5;

    public static void main(String[] args) {
        aNewObject();
        log();
        logForgets();
        squareAndAt();
        water();
        sheet();
        lay();
        tear();
        copy();
        copyOntoItself();
        fill();
        all();
        mean();
        Due.end();
    }

    private static void aNewObject() {
        LogsAfloat x = new LogsAfloat();
        Due.is(1, "count(0)", x.count(0), 1);
        Due.is(1, "count(1)", x.count(1), 1);
        Due.is(1, "count(2)", x.count(2), 0);
        Due.is(1, "count(3)", x.count(3), 0);
        Due.is(1, "count(4)", x.count(4), 0);
        Due.is(1, "at(0, 0)", x.at(0, 0), NONE);
        Due.is(1, "finding()", x.finding(), 0);
        Due.is(1, "upper()", x.upper(), 0);
        Due.is(1, "lower()", x.lower(), 1);
        Due.is(1, "water(10)", x.water(10), 10);
        for (int s = 0; s <= 5; s++) {
            Due.finds(1, "tear(" + s + ")", x.tear(s), x, NOTHING);
        }
    }

    private static void log() {
        LogsAfloat x = new LogsAfloat();
        Due.is(2, "log(12, 12)", x.log(12, 12), 144);
        Due.is(2, "log(3, 7)", x.log(3, 7), 21);
        Due.is(2, "count(0)", x.count(0), 3);
        Due.is(2, "count(1)", x.count(1), 7);
        x.square(2, 6, 4);
        x.load(0, 1, 1, 1);
        int[][] bad = {{0, 5}, {5, 0}, {13, 5}, {5, 13}, {-1, -1}, {Integer.MIN_VALUE, 1}, {1, Integer.MAX_VALUE}};
        for (int[] b : bad) {
            Due.is(2, "log(" + b[0] + ", " + b[1] + ")", x.log(b[0], b[1]), BAD);
        }
        Due.is(2, "at(2, 6) after refusals", x.at(2, 6), 4);
        Due.is(2, "count(3) after refusals", x.count(3), 1);
        Due.is(2, "log(1, 1)", x.log(1, 1), 1);
    }

    private static void logForgets() {
        LogsAfloat x = Logs.drawn(7, "55", "55");
        x.load(1, 1, 1, 9);
        x.sheet(2, 4);
        x.tear(0);
        x.room(0, 1, 1);
        Due.is(2, "log(2, 2)", x.log(2, 2), 4);
        Due.is(2, "count(2)", x.count(2), 0);
        Due.is(2, "count(3)", x.count(3), 0);
        Due.is(2, "count(4)", x.count(4), 0);
        Due.is(2, "all()", x.all(), 0);
        Due.is(2, "told(0, 0)", x.told(0, 0), BAD);
        Due.is(2, "load(0, 0, 0, 0)", x.load(0, 0, 0, 0), 0);
        Due.is(2, "finding()", x.finding(), NOTHING);
        Due.is(2, "lay(2, 3, 1)", x.lay(2, 3, 1), 1000);
        Due.is(2, "upper()", x.upper(), 2);
        Due.is(2, "water(7)", x.water(7), 7);
        // a rope of before does not hang on
        x.log(2, 2);
        x.load(1, 1, 1, 1);
        x.rope(0, 9);
        x.log(2, 2);
        x.load(1, 1, 1, 1);
        Due.is(2, "told(0, 4)", x.told(0, 4), 0);
    }

    private static void squareAndAt() {
        LogsAfloat x = new LogsAfloat();
        x.log(3, 2);
        Due.is(3, "square(2, 1, 0)", x.square(2, 1, 0), NONE);
        Due.is(4, "at(2, 1)", x.at(2, 1), 0);
        Due.is(3, "square(2, 1, 20)", x.square(2, 1, 20), 0);
        Due.is(4, "at(2, 1)", x.at(2, 1), 20);
        Due.is(4, "at(1, 1)", x.at(1, 1), NONE);
        int[][] bad = {{3, 0, 1}, {0, 2, 1}, {-1, 0, 1}, {0, -1, 1}, {0, 0, 21}, {0, 0, -1}, {0, 0, -8}, {0, 0, -10}};
        for (int[] b : bad) {
            Due.is(3, "square(" + b[0] + ", " + b[1] + ", " + b[2] + ")", x.square(b[0], b[1], b[2]), BAD);
        }
        Due.is(3, "count(2) after refusals", x.count(2), 1);
        int[][] beyond = {{3, 0}, {0, 2}, {-1, 0}, {0, -1}, {Integer.MAX_VALUE, Integer.MIN_VALUE}};
        for (int[] b : beyond) {
            Due.is(4, "at(" + b[0] + ", " + b[1] + ")", x.at(b[0], b[1]), BAD);
        }
        Due.is(3, "square(2, 1, NONE)", x.square(2, 1, NONE), 20);
        Due.is(3, "square(2, 1, NONE) again", x.square(2, 1, NONE), NONE);
        Due.is(3, "count(2)", x.count(2), 0);
        Due.is(34, "finding() after BAD alone", x.finding(), 0);
    }

    private static void water() {
        LogsAfloat x = new LogsAfloat();
        Due.is(5, "water(20)", x.water(20), 10);
        Due.is(5, "water(0)", x.water(0), BAD);
        Due.is(5, "water(21)", x.water(21), BAD);
        Due.is(5, "water(-1)", x.water(-1), BAD);
        Due.is(5, "water(1)", x.water(1), 20);
        Due.is(5, "water(5)", x.water(5), 1);
    }

    private static void sheet() {
        LogsAfloat x = new LogsAfloat();
        Due.is(6, "sheet(0, 0)", x.sheet(0, 0), 0);
        Due.is(6, "sheet(5, 12)", x.sheet(5, 12), 12);
        Due.is(6, "sheet(5, 13)", x.sheet(5, 13), BAD);
        Due.is(6, "sheet(6, 1)", x.sheet(6, 1), BAD);
        Due.is(6, "sheet(-1, 1)", x.sheet(-1, 1), BAD);
        Due.is(6, "sheet(6, -1): BAD goes first", x.sheet(6, -1), BAD);
        Due.is(6, "finding()", x.finding(), 0);
        x.lay(5, 11, 77);
        Due.finds(6, "sheet(5, -1)", x.sheet(5, -1), x, SIZE);
        Due.finds(6, "sheet(4, MIN)", x.sheet(4, Integer.MIN_VALUE), x, SIZE);
        Due.is(6, "findings(5)", x.findings(SIZE), 2);
        Due.is(6, "lay(5, 11, 0) after a refusal", x.lay(5, 11, 78), 1077);
        Due.is(6, "sheet(5, 3) anew", x.sheet(5, 3), 3);
        Due.finds(6, "lay(5, 3, 1)", x.lay(5, 3, 1), x, BEYOND);
        Due.is(6, "sheet(5, 12) anew", x.sheet(5, 12), 12);
        Due.is(6, "lay(5, 11, 1): bytes are 0", x.lay(5, 11, 1), 1000);
        x.lay(5, 0, 9);
        x.sheet(5, 1);
        Due.is(6, "lay(5, 0, 1): the first one, too", x.lay(5, 0, 1), 1000);
    }

    private static void lay() {
        LogsAfloat x = new LogsAfloat();
        Due.is(7, "lay(-1, 0, 0)", x.lay(-1, 0, 0), BAD);
        Due.is(7, "lay(6, 0, 0)", x.lay(6, 0, 0), BAD);
        Due.finds(7, "lay(1, 99, 0)", x.lay(1, 99, 0), x, NOTHING);
        x.sheet(1, 2);
        Due.finds(7, "lay(1, 2, 0)", x.lay(1, 2, 0), x, BEYOND);
        Due.finds(7, "lay(1, -1, 0)", x.lay(1, -1, 0), x, BEYOND);
        Due.is(7, "lay(1, 1, 127)", x.lay(1, 1, 127), 1000);
        Due.is(7, "lay(1, 1, 128)", x.lay(1, 1, 128), 1127);
        Due.is(7, "lay(1, 1, -129)", x.lay(1, 1, -129), 872);
        Due.is(7, "lay(1, 1, 511)", x.lay(1, 1, 511), 1127);
        Due.is(7, "lay(1, 1, 256)", x.lay(1, 1, 256), 999);
        Due.is(7, "lay(1, 1, 0)", x.lay(1, 1, 0), 1000);
        Due.is(7, "lay(1, 0, 0)", x.lay(1, 0, 0), 1000);
        x.sheet(2, 0);
        Due.finds(7, "lay(2, 0, 0)", x.lay(2, 0, 0), x, BEYOND);
    }

    private static void tear() {
        LogsAfloat x = new LogsAfloat();
        x.sheet(0, 0);
        x.sheet(5, 5);
        Due.is(8, "tear(-1)", x.tear(-1), BAD);
        Due.is(8, "tear(6)", x.tear(6), BAD);
        Due.is(8, "tear(0)", x.tear(0), 1);
        Due.finds(8, "tear(0) again", x.tear(0), x, NOTHING);
        Due.is(8, "tear(5)", x.tear(5), 1);
        Due.finds(8, "lay(5, 0, 0)", x.lay(5, 0, 0), x, NOTHING);
        Due.finds(8, "copy(5, 0, 5, 0, 0)", x.copy(5, 0, 5, 0, 0), x, NOTHING);
    }

    private static void copy() {
        LogsAfloat x = new LogsAfloat();
        Due.is(9, "copy(6, 0, 0, 0, 0)", x.copy(6, 0, 0, 0, 0), BAD);
        Due.is(9, "copy(0, 0, -1, 0, 0)", x.copy(0, 0, -1, 0, 0), BAD);
        x.sheet(0, 4);
        Due.finds(9, "copy(0, 9, 1, 0, 0)", x.copy(0, 9, 1, 0, 0), x, NOTHING);
        Due.finds(9, "copy(1, 0, 0, 9, 0)", x.copy(1, 0, 0, 9, 0), x, NOTHING);
        x.sheet(1, 3);
        for (int i = 0; i < 4; i++) {
            x.lay(0, i, i + 1);
        }
        int[][] beyond = {{-1, 0, 1}, {0, -1, 1}, {0, 0, -1}, {0, 0, 4}, {4, 0, 1}, {2, 0, 3}, {0, 1, 3}, {5, 0, 0},
            {0, 4, 0}, {Integer.MAX_VALUE, 0, 1}, {1, 1, Integer.MAX_VALUE}, {-5, -5, 5}, {3, 3, Integer.MIN_VALUE}};
        for (int[] b : beyond) {
            String call = "copy(0, " + b[0] + ", 1, " + b[1] + ", " + b[2] + ")";
            Due.finds(9, call, x.copy(0, b[0], 1, b[1], b[2]), x, BEYOND);
        }
        Due.is(9, "lay(1, 0, 0) after refusals", x.lay(1, 0, 0), 1000);
        Due.is(9, "copy(0, 4, 1, 3, 0)", x.copy(0, 4, 1, 3, 0), 1);
        Due.is(9, "copy(0, 2, 1, 1, 2)", x.copy(0, 2, 1, 1, 2), 1);
        Due.is(9, "lay(1, 0, 0)", x.lay(1, 0, 0), 1000);
        Due.is(9, "lay(1, 1, 0)", x.lay(1, 1, 0), 1003);
        Due.is(9, "lay(1, 2, 0)", x.lay(1, 2, 0), 1004);
        Due.is(9, "lay(0, 3, 0): the source stays", x.lay(0, 3, 0), 1004);
    }

    private static void copyOntoItself() {
        LogsAfloat x = new LogsAfloat();
        x.sheet(3, 5);
        for (int i = 0; i < 5; i++) {
            x.lay(3, i, i + 1);
        }
        Due.is(9, "copy(3, 0, 3, 1, 4)", x.copy(3, 0, 3, 1, 4), 1);
        int[] forth = {1, 1, 2, 3, 4};
        for (int i = 0; i < 5; i++) {
            Due.is(9, "forth: lay(3, " + i + ", ..)", x.lay(3, i, i + 1), 1000 + forth[i]);
        }
        Due.is(9, "copy(3, 1, 3, 0, 4)", x.copy(3, 1, 3, 0, 4), 1);
        int[] back = {2, 3, 4, 5, 5};
        for (int i = 0; i < 5; i++) {
            Due.is(9, "back: lay(3, " + i + ", ..)", x.lay(3, i, 0), 1000 + back[i]);
        }
    }

    private static void fill() {
        LogsAfloat x = new LogsAfloat();
        x.log(3, 2);
        x.square(0, 1, 9);
        Due.is(10, "fill(-1, 0)", x.fill(-1, 0), BAD);
        Due.is(10, "fill(2, 0)", x.fill(2, 0), BAD);
        Due.is(10, "fill(0, 6)", x.fill(0, 6), BAD);
        Due.is(10, "fill(0, -1)", x.fill(0, -1), BAD);
        Due.finds(10, "fill(0, 0)", x.fill(0, 0), x, NOTHING);
        x.sheet(0, 2);
        Due.finds(10, "fill(1, 0)", x.fill(1, 0), x, BEYOND);
        Due.is(10, "at(0, 1) after refusals", x.at(0, 1), 9);
        x.sheet(0, 4);
        x.lay(0, 0, -1);
        x.lay(0, 1, 21);
        x.lay(0, 2, 20);
        x.lay(0, 3, 7);
        Due.is(10, "fill(1, 0)", x.fill(1, 0), 2);
        Due.is(10, "at(0, 1)", x.at(0, 1), NONE);
        Due.is(10, "at(1, 1)", x.at(1, 1), 20);
        Due.is(10, "at(2, 1)", x.at(2, 1), 20);
        Due.is(10, "at(0, 0): the other row stays", x.at(0, 0), NONE);
        x.sheet(1, 3);
        Due.is(10, "fill(0, 1)", x.fill(0, 1), 3);
        Due.is(10, "at(2, 0)", x.at(2, 0), 0);
        x.lay(1, 0, -128);
        x.lay(1, 1, 127);
        Due.is(10, "at(0, 0): a sheet's change alone", x.at(0, 0), 0);
        Due.is(10, "fill(0, 1)", x.fill(0, 1), 2);
        Due.is(10, "at(0, 0)", x.at(0, 0), NONE);
        Due.is(10, "at(1, 0)", x.at(1, 0), 20);
        Due.is(10, "count(2)", x.count(2), 4);
        x.log(1, 1);
        Due.is(10, "fill(0, 1) of one place", x.fill(0, 1), 0);
        x.log(12, 12);
        Due.finds(10, "fill(11, 1) of twelve places", x.fill(11, 1), x, BEYOND);
        x.sheet(1, 12);
        Due.is(10, "fill(11, 1) of twelve places", x.fill(11, 1), 12);
    }

    private static void all() {
        LogsAfloat x = Logs.drawn(10, "5.", "07");
        Due.is(17, "all()", x.all(), 12);
        x.load(0, 0, 0, 200);
        x.load(1, 0, 0, 3);
        x.load(2, 0, 0, 1);
        Due.is(17, "all() with loads", x.all(), 216);
        x.drop(0);
        Due.is(17, "all() without a load", x.all(), 16);
        LogsAfloat most = new LogsAfloat();
        most.log(12, 12);
        for (int i = 0; i < 144; i++) {
            most.square(i % 12, i / 12, 20);
        }
        for (int i = 0; i < 10; i++) {
            most.load(0, 0, 0, 200);
        }
        Due.is(17, "all() at most", most.all(), 4880);
    }

    private static void mean() {
        LogsAfloat x = new LogsAfloat();
        x.load(0, 1, 1, 50);
        Due.finds(18, "mean()", x.mean(), x, NOUGHT);
        x = Logs.drawn(10, "5.", "07");
        x.load(0, 1, 1, 50);
        Due.is(18, "mean()", x.mean(), 4);
        x.square(1, 0, 6);
        Due.is(18, "mean() cut", x.mean(), 3);
        Due.is(18, "mean() of 0", Logs.drawn(10, "0").mean(), 0);
    }
}
