/** Promises 11 to 16 at their edges. */
final class LoadsEdges {
    private LoadsEdges() {
    }

    static void run() {
        load();
        loadBad();
        loadFull();
        move();
        moveBad();
        moveNothing();
        moveUnlike();
        rope();
        ropeBad();
        ropeNothing();
        ropeUnlike();
        drop();
        dropBad();
        dropNothing();
        told();
        toldBad();
        toldNothing();
        is();
        isBad();
        isNothing();
    }

    /** A load of each kind, 0 to 2, and the dropped ones 3 to 5. */
    private static LogsAfloat laden() {
        LogsAfloat x = new LogsAfloat();
        for (int i = 0; i < 6; i++) {
            x.load(i % 3, i, i + 1, i + 2);
        }
        for (int i = 3; i < 6; i++) {
            x.drop(i);
        }
        return x;
    }

    private static void load() {
        Edge.of(11, "A LOAD: its number.");
        LogsAfloat x = new LogsAfloat();
        Edge.is(x, "load(0, 0, 0, 0)", 0);
        Edge.is(x, "load(2, 24, 24, 200)", 1);
        Edge.is(x, "load(1, 0, 24, 0)", 2);
        // a dropped one's number is not given again
        x.drop(2);
        Edge.is(x, "load(1, 24, 0, 200)", 3);
        int[] due = {1, 24, 0, 200, 0};
        for (int what = 0; what < 5; what++) {
            Edge.is(x, "told(3, " + what + ")", due[what]);
        }
    }

    private static void loadBad() {
        Edge.of(11, "BAD;");
        LogsAfloat x = new LogsAfloat();
        Edge.refused(x, Edge.BAD, "load(-1, 0, 0, 0)", "load(3, 0, 0, 0)", "load(0, -1, 0, 0)", "load(0, 25, 0, 0)",
            "load(0, 0, -1, 0)", "load(0, 0, 25, 0)", "load(0, 0, 0, -1)", "load(0, 0, 0, 201)", "load(MIN, 0, 0, 0)",
            "load(0, MAX, 0, 0)", "load(0, 0, MIN, 0)", "load(0, 0, 0, MAX)", "load(0, 0, 0, NONE)");
        // no number is lost by it
        Edge.is(x, "load(0, 0, 0, 0)", 0);
    }

    private static void loadFull() {
        Edge.of(11, "FULL.");
        LogsAfloat x = new LogsAfloat();
        for (int i = 0; i < 9; i++) {
            x.load(0, 0, 0, 0);
        }
        Edge.is(x, "load(2, 1, 1, 1)", 9);
        Edge.refused(x, Edge.FULL, "load(0, 0, 0, 0)", "load(1, 24, 24, 200)");
        x.drop(9);
        Edge.refused(x, Edge.FULL, "load(0, 0, 0, 0)");
        Edge.is(x, "count(3)", 10);
    }

    private static void move() {
        Edge.of(12, "A LOAD comes to another point: 1.");
        LogsAfloat x = laden();
        Edge.is(x, "move(0, 0, 24)", 1);
        Edge.is(x, "told(0, 1)", 0);
        Edge.is(x, "told(0, 2)", 24);
        // to where it is
        Edge.is(x, "move(0, 0, 24)", 1);
        x.rope(1, 20);
        Edge.is(x, "move(1, 24, 0)", 1);
        Edge.is(x, "told(1, 1)", 24);
        Edge.is(x, "told(1, 2)", 0);
        Edge.is(x, "told(1, 3)", 3);
        Edge.is(x, "told(1, 4)", 20);
    }

    private static void moveBad() {
        Edge.of(12, "BAD;");
        LogsAfloat x = laden();
        Edge.refused(x, Edge.BAD, "move(-1, 0, 0)", "move(6, 0, 0)", "move(10, 0, 0)", "move(MIN, 0, 0)", "move(MAX, 0, 0)",
            "move(0, -1, 0)", "move(0, 25, 0)", "move(0, 0, -1)", "move(0, 0, 25)", "move(0, MIN, 0)", "move(0, 0, MAX)",
            "move(3, 25, 0)", "move(2, 0, 25)");
        Edge.refused(new LogsAfloat(), Edge.BAD, "move(0, 0, 0)");
    }

    private static void moveNothing() {
        Edge.of(12, "NOTHING;");
        // ahead of UNLIKE
        Edge.finds(laden(), Edge.NOTHING, "move(3, 0, 0)", "move(4, 24, 24)", "move(5, 0, 0)");
    }

    private static void moveUnlike() {
        Edge.of(12, "UNLIKE: a TIED one.");
        LogsAfloat x = laden();
        Edge.finds(x, Edge.UNLIKE, "move(2, 0, 0)", "move(2, 2, 3)");
        Edge.is(x, "move(1, 0, 0)", 1);
    }

    private static void rope() {
        Edge.of(13, "ROPE of a HANGING one is n: what it was.");
        LogsAfloat x = laden();
        Edge.is(x, "rope(1, 0)", 0);
        Edge.is(x, "rope(1, 20)", 0);
        Edge.is(x, "rope(1, 1)", 20);
        Edge.is(x, "rope(1, 0)", 1);
        Edge.is(x, "told(1, 4)", 0);
    }

    private static void ropeBad() {
        Edge.of(13, "BAD;");
        LogsAfloat x = laden();
        x.rope(1, 7);
        Edge.refused(x, Edge.BAD, "rope(1, -1)", "rope(1, 21)", "rope(1, MIN)", "rope(1, MAX)", "rope(-1, 0)", "rope(6, 0)",
            "rope(10, 0)", "rope(MIN, 0)", "rope(MAX, 0)", "rope(0, 21)", "rope(4, 21)");
        Edge.refused(new LogsAfloat(), Edge.BAD, "rope(0, 0)");
    }

    private static void ropeNothing() {
        Edge.of(13, "NOTHING;");
        // ahead of UNLIKE
        Edge.finds(laden(), Edge.NOTHING, "rope(3, 0)", "rope(4, 20)", "rope(5, 0)");
    }

    private static void ropeUnlike() {
        Edge.of(13, "UNLIKE.");
        LogsAfloat x = laden();
        Edge.finds(x, Edge.UNLIKE, "rope(0, 0)", "rope(2, 20)");
        Edge.is(x, "told(0, 4)", Edge.NONE);
    }

    private static void drop() {
        Edge.of(14, "A LOAD is missing from now on: 1.");
        LogsAfloat x = laden();
        // of each kind, a TIED one, too
        for (int i = 0; i < 3; i++) {
            Edge.is(x, "drop(" + i + ")", 1);
            Edge.is(x, "count(4)", 2 - i);
        }
        Edge.is(x, "count(3)", 6);
        Edge.is(x, "all()", 0);
        Edge.finds(x, Edge.NOTHING, "move(0, 0, 0)", "rope(1, 0)", "told(2, 0)", "is(2, 2)");
        Edge.is(x, "load(0, 0, 0, 5)", 6);
        Edge.finds(x, Edge.NOTHING, "told(2, 0)");
    }

    private static void dropBad() {
        Edge.of(14, "BAD;");
        Edge.refused(laden(), Edge.BAD, "drop(-1)", "drop(6)", "drop(10)", "drop(MIN)", "drop(MAX)");
        Edge.refused(new LogsAfloat(), Edge.BAD, "drop(0)");
    }

    private static void dropNothing() {
        Edge.of(14, "NOTHING.");
        LogsAfloat x = laden();
        x.drop(0);
        Edge.finds(x, Edge.NOTHING, "drop(0)", "drop(0)", "drop(5)");
    }

    private static void told() {
        Edge.of(15, "Of a LOAD: 0 its KIND, 1, 2 its point, 3 its WEIGHT, 4 its ROPE (NONE: not HANGING).");
        LogsAfloat x = laden();
        int[][] due = {{0, 0, 1, 2, Edge.NONE}, {1, 1, 2, 3, 0}, {2, 2, 3, 4, Edge.NONE}};
        for (int load = 0; load < 3; load++) {
            for (int what = 0; what < 5; what++) {
                Edge.is(x, "told(" + load + ", " + what + ")", due[load][what]);
            }
        }
        x.rope(1, 20);
        Edge.is(x, "told(1, 4)", 20);
        // a rope is told, but does not change the point
        Edge.is(x, "told(1, 2)", 2);
    }

    private static void toldBad() {
        Edge.of(15, "BAD;");
        Edge.refused(laden(), Edge.BAD, "told(0, -1)", "told(0, 5)", "told(0, MIN)", "told(0, MAX)", "told(-1, 0)", "told(6, 0)",
            "told(10, 0)", "told(MIN, 0)", "told(MAX, 0)", "told(3, 5)");
        Edge.refused(new LogsAfloat(), Edge.BAD, "told(0, 0)");
    }

    private static void toldNothing() {
        Edge.of(15, "NOTHING.");
        Edge.finds(laden(), Edge.NOTHING, "told(3, 0)", "told(4, 4)", "told(5, 3)");
    }

    private static void is() {
        Edge.of(16, "Whether a LOAD IS of a KIND: 1, 0.");
        LogsAfloat x = laden();
        int[][] due = {{1, 0, 0}, {1, 1, 0}, {1, 0, 1}};
        for (int load = 0; load < 3; load++) {
            for (int kind = 0; kind < 3; kind++) {
                Edge.is(x, "is(" + load + ", " + kind + ")", due[load][kind]);
            }
        }
    }

    private static void isBad() {
        Edge.of(16, "BAD;");
        Edge.refused(laden(), Edge.BAD, "is(0, -1)", "is(0, 3)", "is(0, MIN)", "is(0, MAX)", "is(-1, 0)", "is(6, 0)", "is(10, 0)",
            "is(MIN, 0)", "is(MAX, 0)", "is(3, 3)");
        Edge.refused(new LogsAfloat(), Edge.BAD, "is(0, 0)");
    }

    private static void isNothing() {
        Edge.of(16, "NOTHING.");
        Edge.finds(laden(), Edge.NOTHING, "is(3, 0)", "is(4, 1)", "is(5, 0)");
    }
}
