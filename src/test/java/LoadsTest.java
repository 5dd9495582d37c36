/** Promises 11 to 16: loads. */
public final class LoadsTest {
    private static final int BAD = LogsAfloat.BAD, FULL = LogsAfloat.FULL, NONE = LogsAfloat.NONE;
    private static final int NOTHING = 1, UNLIKE = 3;

    public static void main(String[] args) {
        load();
        full();
        move();
        rope();
        drop();
        told();
        is();
        numbersThatAreNone();
        Due.end();
    }

    private static LogsAfloat oneOfEach() {
        LogsAfloat x = new LogsAfloat();
        x.load(0, 1, 2, 3);
        x.load(1, 4, 5, 6);
        x.load(2, 7, 8, 9);
        return x;
    }

    private static void load() {
        LogsAfloat x = new LogsAfloat();
        int[][] bad = {{-1, 0, 0, 0}, {3, 0, 0, 0}, {0, -1, 0, 0}, {0, 25, 0, 0}, {0, 0, -1, 0}, {0, 0, 25, 0},
            {0, 0, 0, -1}, {0, 0, 0, 201}};
        for (int[] b : bad) {
            String call = "load(" + b[0] + ", " + b[1] + ", " + b[2] + ", " + b[3] + ")";
            Due.is(11, call, x.load(b[0], b[1], b[2], b[3]), BAD);
        }
        Due.is(11, "count(3) after refusals", x.count(3), 0);
        Due.is(11, "load(0, 0, 0, 0)", x.load(0, 0, 0, 0), 0);
        Due.is(11, "load(2, 24, 24, 200)", x.load(2, 24, 24, 200), 1);
        Due.is(11, "load(1, 24, 0, 7)", x.load(1, 24, 0, 7), 2);
        Due.is(11, "told(2, 0)", x.told(2, 0), 1);
        Due.is(11, "told(2, 4)", x.told(2, 4), 0);
    }

    private static void full() {
        LogsAfloat x = new LogsAfloat();
        for (int i = 0; i < 10; i++) {
            Due.is(11, "load " + i, x.load(i % 3, 0, 0, i), i);
        }
        Due.is(11, "load(0, 0, 0, 0): full", x.load(0, 0, 0, 0), FULL);
        Due.is(11, "load(3, 0, 0, 0): BAD goes first", x.load(3, 0, 0, 0), BAD);
        x.drop(9);
        Due.is(11, "load(0, 0, 0, 0): ten ever", x.load(0, 0, 0, 0), FULL);
        Due.is(11, "all()", x.all(), 36);
        Due.is(11, "count(3)", x.count(3), 10);
        x.log(1, 1);
        Due.is(11, "load(0, 0, 0, 0) of a new log", x.load(0, 0, 0, 0), 0);
    }

    private static void move() {
        LogsAfloat x = oneOfEach();
        Due.is(12, "move(0, 0, 24)", x.move(0, 0, 24), 1);
        Due.is(12, "told(0, 1)", x.told(0, 1), 0);
        Due.is(12, "told(0, 2)", x.told(0, 2), 24);
        Due.is(12, "move(1, 24, 0)", x.move(1, 24, 0), 1);
        Due.is(12, "told(1, 1)", x.told(1, 1), 24);
        Due.finds(12, "move(2, 1, 1)", x.move(2, 1, 1), x, UNLIKE);
        Due.is(12, "told(2, 1)", x.told(2, 1), 7);
        int[][] bad = {{-1, 0, 0}, {3, 0, 0}, {0, -1, 0}, {0, 25, 0}, {0, 0, -1}, {0, 0, 25}, {2, 25, 0}, {10, 0, 0}};
        for (int[] b : bad) {
            Due.is(12, "move(" + b[0] + ", " + b[1] + ", " + b[2] + ")", x.move(b[0], b[1], b[2]), BAD);
        }
        x.drop(2);
        Due.finds(12, "move(2, 1, 1) of a dropped tied one", x.move(2, 1, 1), x, NOTHING);
        Due.is(12, "move(2, 1, 25): BAD goes first", x.move(2, 1, 25), BAD);
        Due.is(12, "findings(3)", x.findings(UNLIKE), 1);
    }

    private static void rope() {
        LogsAfloat x = oneOfEach();
        Due.is(13, "rope(1, 20)", x.rope(1, 20), 0);
        Due.is(13, "rope(1, 21)", x.rope(1, 21), BAD);
        Due.is(13, "rope(1, -1)", x.rope(1, -1), BAD);
        Due.is(13, "rope(3, 1)", x.rope(3, 1), BAD);
        Due.is(13, "rope(-1, 1)", x.rope(-1, 1), BAD);
        Due.is(13, "rope(0, 21): BAD goes first", x.rope(0, 21), BAD);
        Due.finds(13, "rope(0, 1)", x.rope(0, 1), x, UNLIKE);
        Due.finds(13, "rope(2, 1)", x.rope(2, 1), x, UNLIKE);
        Due.is(13, "rope(1, 5)", x.rope(1, 5), 20);
        x.move(1, 0, 0);
        Due.is(13, "told(1, 4) after a move", x.told(1, 4), 5);
        x.drop(1);
        x.drop(0);
        Due.finds(13, "rope(1, 5) of a dropped one", x.rope(1, 5), x, NOTHING);
        Due.finds(13, "rope(0, 5): NOTHING goes first", x.rope(0, 5), x, NOTHING);
    }

    private static void drop() {
        LogsAfloat x = oneOfEach();
        Due.is(14, "drop(-1)", x.drop(-1), BAD);
        Due.is(14, "drop(3)", x.drop(3), BAD);
        Due.is(14, "drop(2)", x.drop(2), 1);
        Due.finds(14, "drop(2) again", x.drop(2), x, NOTHING);
        Due.is(14, "all()", x.all(), 9);
        Due.is(14, "count(3)", x.count(3), 3);
        Due.is(14, "count(4)", x.count(4), 2);
        Due.is(14, "load(0, 0, 0, 1): numbers are not given again", x.load(0, 0, 0, 1), 3);
        Due.is(14, "told(1, 3): the others stay", x.told(1, 3), 6);
    }

    private static void told() {
        LogsAfloat x = oneOfEach();
        int[][] due = {{0, 1, 2, 3, NONE}, {1, 4, 5, 6, 0}, {2, 7, 8, 9, NONE}};
        for (int load = 0; load < 3; load++) {
            for (int what = 0; what < 5; what++) {
                Due.is(15, "told(" + load + ", " + what + ")", x.told(load, what), due[load][what]);
            }
        }
        x.rope(1, 13);
        Due.is(15, "told(1, 4)", x.told(1, 4), 13);
        Due.is(15, "told(0, 5)", x.told(0, 5), BAD);
        Due.is(15, "told(0, -1)", x.told(0, -1), BAD);
        Due.is(15, "told(3, 0)", x.told(3, 0), BAD);
        Due.is(15, "told(-1, 0)", x.told(-1, 0), BAD);
        x.drop(1);
        Due.finds(15, "told(1, 4) of a dropped one", x.told(1, 4), x, NOTHING);
        Due.is(15, "told(1, 5): BAD goes first", x.told(1, 5), BAD);
    }

    private static void is() {
        LogsAfloat x = oneOfEach();
        int[][] due = {{1, 0, 0}, {1, 1, 0}, {1, 0, 1}};
        for (int load = 0; load < 3; load++) {
            for (int kind = 0; kind < 3; kind++) {
                Due.is(16, "is(" + load + ", " + kind + ")", x.is(load, kind), due[load][kind]);
            }
        }
        Due.is(16, "is(0, 3)", x.is(0, 3), BAD);
        Due.is(16, "is(0, -1)", x.is(0, -1), BAD);
        Due.is(16, "is(3, 0)", x.is(3, 0), BAD);
        Due.is(16, "is(-1, 0)", x.is(-1, 0), BAD);
        x.drop(2);
        Due.finds(16, "is(2, 2)", x.is(2, 2), x, NOTHING);
    }

    /** A number that no load ever had is none (BAD); one that was dropped is missing (NOTHING). */
    private static void numbersThatAreNone() {
        LogsAfloat x = new LogsAfloat();
        Due.is(12, "move(0, 0, 0)", x.move(0, 0, 0), BAD);
        Due.is(13, "rope(0, 0)", x.rope(0, 0), BAD);
        Due.is(14, "drop(0)", x.drop(0), BAD);
        Due.is(15, "told(0, 0)", x.told(0, 0), BAD);
        Due.is(16, "is(0, 0)", x.is(0, 0), BAD);
        Due.is(34, "finding()", x.finding(), 0);
    }
}
