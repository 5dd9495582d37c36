/** The second part of the terms: what the water does, at the edges of its words. */
final class WaterEdges {
    private static final int TERMS = Document.TERMS;
    private static final String WET = "======== 2 With water up to a height h above r and not above r + 1 (r 0, 1, ..): WET are"
        + " places without a SQUARE, in ROWS 0 to r, that hang together, place beside, above or below place, within these"
        + " ROWS, with one at the left or the right end, or in ROW 0 (the water's way in).";
    private static final String LINE = "THE LINE: FIRM places of ROW r (if h is r + 1 just, those of ROW r + 1 would be FIRM with"
        + " a little more water: of both the one with the lesser BREADTH counts; above the top: only r).";
    private static final String HOLDS = "HOLDS: 2 if it is LEVEL and BREADTH is greater than ROOM times how much G is above B"
        + " (also if G is below B, or BREADTH 0 then), 1 if it is LEVEL and these are alike, else 0.";

    private WaterEdges() {
    }

    static void run() {
        aRowsEnd();
        cornersDoNotHangTogether();
        withinTheRowsInTheWater();
        waysIn();
        noWayInFromAbove();
        narrow();
        winding();
        firm();
        room();
        draft();
        sinks();
        overARim();
        aboveARim();
        middleOfFirm();
        middleOfAll();
        units();
        leans();
        lineWithinARow();
        lineAtARowsEnd();
        lineCountsByBreadth();
        lineFloodedAbove();
        lineOfNoRowFartherUp();
        lineAtTheTop();
        lineOfNothing();
        breadth();
        holdsAlike();
        holdsWithGBelowB();
        holdsWithoutBreadth();
        holdsOnlyLevel();
    }

    private static void aRowsEnd() {
        Edge.of(TERMS, WET);
        LogsAfloat x = Logs.boat();
        Edge.told(x, "room(0, 1, 1)", 4, 1);
        Edge.told(x, "room(0, 2, 1)", 8, 1);
        Edge.told(x, "room(0, 24, 11)", 68, 11);
        x.load(0, 4, 0, 73);
        // h is 2 just: not above r + 1, so row 2 is not in it and nothing comes over the rim
        Edge.told(x, "draft(0)", 2, 1);
        Edge.is(x, "place(0, 1, 1)", 3);
        Edge.is(x, "place(0, 0, 2)", 0);
    }

    private static void cornersDoNotHangTogether() {
        Edge.of(TERMS, WET);
        LogsAfloat x = Logs.drawn(20, "555", "5.5", "55.", "555");
        Edge.told(x, "room(0, 4, 1)", 11, 1);
        x.square(1, 1, Edge.NONE);
        Edge.told(x, "room(0, 4, 1)", 9, 1);
    }

    private static void withinTheRowsInTheWater() {
        Edge.of(TERMS, WET);
        // the only way to the place (1, 1) goes over row 2
        LogsAfloat x = Logs.drawn(20, "555", "5..", "5.5", "555");
        Edge.told(x, "room(0, 2, 1)", 6, 1);
        Edge.told(x, "room(0, 24, 11)", 57, 11);
        Edge.told(x, "room(0, 3, 1)", 6, 1);
    }

    private static void waysIn() {
        Edge.of(TERMS, WET);
        LogsAfloat left = Logs.drawn(20, "555", "..5", "555");
        Edge.told(left, "room(0, 3, 1)", 7, 1);
        LogsAfloat right = Logs.drawn(20, "555", "5..", "555");
        Edge.told(right, "room(0, 3, 1)", 7, 1);
        LogsAfloat below = Logs.drawn(20, "555", "5.5", "5.5");
        Edge.told(below, "room(0, 3, 1)", 7, 1);
        LogsAfloat nowhere = Logs.drawn(20, "555", "5.5", "555");
        Edge.told(nowhere, "room(0, 3, 1)", 9, 1);
    }

    private static void noWayInFromAbove() {
        Edge.of(TERMS, WET);
        LogsAfloat x = Logs.drawn(20, "5.5", "5.5", "555");
        Edge.told(x, "room(0, 3, 1)", 9, 1);
        x.load(0, 3, 0, 145);
        Edge.told(x, "draft(0)", 3, 1);
        Edge.is(x, "place(0, 1, 2)", 3);
    }

    private static void narrow() {
        Edge.of(TERMS, WET);
        // one place is both the left and the right end
        LogsAfloat x = Logs.drawn(10, "5", ".", "5");
        Edge.told(x, "room(0, 3, 1)", 2, 1);
        Edge.told(x, "room(1, 1, 1)", 2, 1);
        Edge.told(x, "draft(0)", 1, 1);
        LogsAfloat none = new LogsAfloat();
        none.log(12, 12);
        Edge.told(none, "room(0, 12, 1)", 0, 1);
    }

    /** A way through all of a log of 12 by 12, up and down again, that begins at its last end. */
    private static void winding() {
        Edge.of(TERMS, WET);
        String shut = "k".repeat(12);
        String[] rows = {shut, "k..........k", "k.kkkkkkkk.k", "k.k......k.k", "k.k.kkkk.k.k", "k.k.k..k.k.k", "k.k.kk.k.k.k",
            "k.k....k.k.k", "k.kkkkkk.k.k", "k........k.k", "kkkkkkkkkk..", shut};
        LogsAfloat x = Logs.drawn(20, rows);
        // up to row 9 ten places are wet, from row 10 on all 56 that are open
        Edge.told(x, "room(0, 10, 1)", 110, 1);
        Edge.told(x, "room(0, 11, 1)", 76, 1);
        Edge.told(x, "room(0, 12, 1)", 88, 1);
        x.square(11, 1, 0);
        Edge.told(x, "room(0, 12, 1)", 144, 1);
    }

    private static void firm() {
        Edge.of(TERMS, "All other places of ROWS 0 to r are FIRM.");
        LogsAfloat x = Logs.drawn(10, "aaa", "a.a", "aaa");
        x.load(0, 3, 3, 10);
        for (int i = 0; i < 9; i++) {
            Edge.is(x, "place(0, " + i % 3 + ", " + i / 3 + ")", i == 4 ? 3 : 2);
        }
        x.drop(0);
        x.square(0, 2, Edge.NONE);
        x.square(0, 1, Edge.NONE);
        Edge.is(x, "place(0, 0, 1)", 1);
        Edge.is(x, "place(0, 1, 1)", 1);
        Edge.is(x, "place(0, 2, 1)", 2);
        Edge.is(x, "place(0, 0, 2)", 1);
        Edge.is(x, "place(0, 2, 2)", 2);
        // the rows above r are neither
        x.square(1, 2, 0);
        x.square(2, 2, 0);
        Edge.is(x, "place(0, 0, 2)", 0);
        Edge.is(x, "place(0, 2, 2)", 0);
        Edge.is(x, "place(0, 2, 1)", 2);
    }

    private static void room() {
        Edge.of(TERMS, "ROOM of h: how many FIRM places lie in ROWS 0 to r - 1, and (h - r) for each in ROW r.");
        LogsAfloat x = Logs.drawn(10, "0..", "000");
        Edge.told(x, "room(0, 1, 12)", 1, 4);
        Edge.told(x, "room(0, 11, 12)", 11, 4);
        Edge.told(x, "room(0, 1, 1)", 3, 1);
        Edge.told(x, "room(0, 13, 12)", 37, 12);
        Edge.told(x, "room(0, 23, 12)", 47, 12);
        Edge.told(x, "room(0, 2, 1)", 4, 1);
    }

    private static void draft() {
        Edge.of(TERMS, "THE DRAFT: the least h (a fraction, above 0, H of the TURN at most) with a ROOM of ALL by d.");
        LogsAfloat least = Logs.drawn(20, "000000000001");
        Edge.told(least, "draft(0)", 1, 240);
        Edge.told(least, "draft(1)", 1, 20);
        LogsAfloat most = Logs.solid(20, 12, 12, 20);
        Edge.told(most, "draft(0)", 12, 1);
        Edge.told(most, "draft(3)", 12, 1);
        most.square(0, 11, 19);
        // 2879 by 20 is 143 and 19/20, 1/240 below the top
        Edge.told(most, "draft(0)", 2879, 240);
        // above a row's end by the least there is
        LogsAfloat more = Logs.drawn(20, "000000000000", "000000000000");
        more.load(0, 12, 0, 200);
        more.load(0, 12, 0, 40);
        Edge.told(more, "draft(0)", 1, 1);
        more.load(0, 12, 0, 1);
        Edge.told(more, "draft(0)", 241, 240);
        LogsAfloat flat = Logs.drawn(10, "aaa");
        Edge.told(flat, "draft(0)", 1, 1);
        Edge.told(flat, "draft(1)", 3, 1);
    }

    private static void sinks() {
        Edge.of(TERMS, "It SINKS, if there is none.");
        LogsAfloat x = Logs.solid(20, 12, 12, 20);
        Edge.is(x, "floats(0)", 1);
        x.load(0, 12, 12, 1);
        Edge.refused(x, Edge.SINKS, "floats(0)", "floats(1)", "floats(2)", "floats(3)");
        LogsAfloat small = Logs.drawn(1, "1");
        Edge.is(small, "floats(0)", 1);
        small.square(0, 0, 2);
        Edge.refused(small, Edge.SINKS, "floats(0)");
    }

    private static void overARim() {
        Edge.of(TERMS, "(As water comes over a rim ROOM falls; but it floats at the least h.)");
        LogsAfloat x = Logs.boat();
        x.load(0, 4, 0, 63);
        // 7 is the room of 7/4, and with the boat full that of 3
        Edge.told(x, "room(0, 7, 4)", 7, 1);
        Edge.told(x, "room(0, 3, 1)", 7, 1);
        Edge.told(x, "draft(0)", 7, 4);
        // 8 is that of 2 alone, and above it there is less
        x.load(0, 4, 0, 10);
        Edge.told(x, "draft(0)", 2, 1);
        x.load(0, 4, 0, 1);
        Edge.refused(x, Edge.SINKS, "draft(0)", "floats(0)");
    }

    /** What is too heavy at the rim floats higher up, where there is more room again. */
    private static void aboveARim() {
        Edge.of(TERMS, "(As water comes over a rim ROOM falls; but it floats at the least h.)");
        LogsAfloat x = Logs.drawn(10, "11111", "11111", "....1", "1...1", "11111");
        long[] room = {5, 10, 8, 13, 18};
        for (int h = 1; h <= 5; h++) {
            Edge.told(x, "room(0, " + h + ", 1)", room[h - 1], 1);
        }
        x.load(0, 5, 0, 77);
        Edge.told(x, "draft(0)", 19, 10);
        x.load(0, 5, 0, 5);
        Edge.told(x, "draft(0)", 2, 1);
        x.load(0, 5, 0, 1);
        Edge.told(x, "draft(0)", 171, 50);
        Edge.is(x, "place(0, 2, 1)", 1);
    }

    private static void middleOfFirm() {
        Edge.of(TERMS, "B: the middle of all FIRM places up to THE DRAFT, those of ROW r as high as they are in the water.");
        LogsAfloat x = Logs.drawn(10, "5...", "aaaa");
        Edge.told(x, "draft(0)", 3, 2);
        Edge.told(x, "middle(0, 0)", 11, 6);
        Edge.told(x, "middle(0, 1)", 7, 12);
        x.square(0, 1, 10);
        // all of row 1
        Edge.told(x, "middle(0, 0)", 17, 10);
        Edge.told(x, "middle(0, 1)", 7, 10);
        x.square(0, 1, 0);
        // row 0 to its end
        Edge.told(x, "middle(0, 0)", 2, 1);
        Edge.told(x, "middle(0, 1)", 1, 2);
        // rows of three, one and two places, all in the water
        LogsAfloat deep = Logs.drawn(10, "aa.", "a..", "aaa");
        Edge.told(deep, "middle(0, 0)", 7, 6);
        Edge.told(deep, "middle(0, 1)", 4, 3);
        Edge.told(Logs.solid(20, 12, 12, 20), "middle(0, 1)", 6, 1);
        LogsAfloat least = Logs.drawn(20, "000000000001");
        Edge.told(least, "middle(0, 0)", 6, 1);
        Edge.told(least, "middle(0, 1)", 1, 480);
        // dry places bear as squares do
        LogsAfloat boat = Logs.boat();
        boat.load(0, 4, 0, 58);
        Edge.told(boat, "middle(0, 0)", 2, 1);
        Edge.told(boat, "middle(0, 1)", 13, 16);
    }

    private static void middleOfAll() {
        Edge.of(TERMS, "G: the middle of ALL: of each SQUARE its middle, of each LOAD its point (as it acts), by WEIGHTS.");
        LogsAfloat x = Logs.drawn(10, "00", "05");
        Edge.told(x, "middle(0, 2)", 3, 2);
        Edge.told(x, "middle(0, 3)", 1, 2);
        x.load(0, 24, 24, 0);
        Edge.told(x, "middle(0, 2)", 3, 2);
        x.load(1, 0, 0, 5);
        Edge.told(x, "middle(0, 2)", 3, 4);
        Edge.told(x, "middle(0, 3)", 1, 4);
        x.rope(1, 20);
        Edge.told(x, "middle(0, 2)", 3, 4);
        Edge.told(x, "middle(0, 3)", 21, 4);
        x.drop(1);
        Edge.told(x, "middle(0, 3)", 1, 2);
    }

    private static void units() {
        Edge.of(TERMS, "Both (x, y) in whole places as units.");
        LogsAfloat x = Logs.solid(20, 12, 12, 1);
        Edge.told(x, "middle(0, 0)", 6, 1);
        Edge.told(x, "middle(0, 1)", 3, 10);
        Edge.told(x, "middle(0, 2)", 6, 1);
        Edge.told(x, "middle(0, 3)", 6, 1);
    }

    private static void leans() {
        Edge.of(TERMS, "LEANS: 0 if B and G have the same x (it is LEVEL); 1 if G's is less, 2 if G's is greater.");
        LogsAfloat x = Logs.solid(20, 12, 12, 19);
        Edge.is(x, "leans(0)", 0);
        x.load(0, 11, 12, 1);
        // half a place for 1 of 2737
        int[] less = {1, 0, 2, 0};
        int[] greater = {2, 0, 1, 0};
        for (int turn = 0; turn < 4; turn++) {
            Edge.is(x, "leans(" + turn + ")", less[turn]);
        }
        x.move(0, 13, 12);
        for (int turn = 0; turn < 4; turn++) {
            Edge.is(x, "leans(" + turn + ")", greater[turn]);
        }
        x.move(0, 12, 12);
        Edge.is(x, "leans(0)", 0);
        // B's x is not the log's middle
        LogsAfloat step = Logs.drawn(10, "a..", "aaa");
        Edge.is(step, "leans(0)", 0);
        step.load(0, 2, 0, 0);
        Edge.is(step, "leans(0)", 0);
    }

    private static LogsAfloat narrowAbove(int load) {
        LogsAfloat x = Logs.drawn(10, ".5.", "888");
        x.load(0, 3, 0, load);
        return x;
    }

    private static LogsAfloat narrowBelow(int load) {
        LogsAfloat x = Logs.drawn(10, "222", ".3.");
        x.load(0, 3, 0, load);
        return x;
    }

    private static void lineWithinARow() {
        Edge.of(TERMS, LINE);
        // 1 by 10 below and above the row's end
        Edge.told(narrowAbove(0), "breadth(0)", 9, 4);
        Edge.told(narrowAbove(2), "breadth(0)", 1, 12);
        Edge.told(narrowBelow(0), "breadth(0)", 1, 12);
        Edge.told(narrowBelow(2), "breadth(0)", 9, 4);
    }

    private static void lineAtARowsEnd() {
        Edge.of(TERMS, LINE);
        Edge.told(narrowAbove(1), "draft(0)", 1, 1);
        Edge.told(narrowAbove(1), "breadth(0)", 1, 12);
        Edge.told(narrowBelow(1), "draft(0)", 1, 1);
        Edge.told(narrowBelow(1), "breadth(0)", 1, 12);
    }

    private static void lineCountsByBreadth() {
        Edge.of(TERMS, LINE);
        // two places far apart are broader than three together
        LogsAfloat below = Logs.drawn(10, "3....3", "888...");
        Edge.told(below, "draft(0)", 1, 1);
        Edge.told(below, "breadth(0)", 9, 4);
        LogsAfloat above = Logs.drawn(10, "...444", "4....4");
        Edge.told(above, "draft(0)", 1, 1);
        Edge.told(above, "breadth(0)", 9, 4);
    }

    private static void lineFloodedAbove() {
        Edge.of(TERMS, LINE);
        LogsAfloat x = Logs.boat();
        x.load(0, 4, 0, 72);
        Edge.told(x, "breadth(0)", 16, 3);
        x.load(0, 4, 0, 1);
        // row 2 with the boat full: its right side alone
        Edge.told(x, "breadth(0)", 1, 12);
        Edge.is(x, "place(0, 1, 1)", 3);
        Edge.told(x, "middle(0, 1)", 1, 1);
        // what is shut in row 1 stays FIRM with a little more water
        LogsAfloat shut = Logs.drawn(10, "0000", "0..0", "aaaa");
        Edge.told(shut, "draft(0)", 1, 1);
        Edge.told(shut, "breadth(0)", 16, 3);
    }

    private static void lineOfNoRowFartherUp() {
        Edge.of(TERMS, LINE);
        // a little more water is not a row more: row 2 neither counts nor floods row 1
        LogsAfloat narrow = Logs.drawn(10, ".0.", "000", "aaa");
        Edge.told(narrow, "draft(0)", 1, 1);
        Edge.told(narrow, "breadth(0)", 9, 4);
        LogsAfloat boat = Logs.drawn(10, "...0", "0..0", "aaaa");
        Edge.told(boat, "draft(0)", 1, 1);
        Edge.told(boat, "breadth(0)", 16, 3);
    }

    private static void lineAtTheTop() {
        Edge.of(TERMS, LINE);
        Edge.told(Logs.drawn(10, "aaa"), "breadth(0)", 9, 4);
        Edge.told(Logs.drawn(10, "aaa"), "breadth(1)", 1, 12);
        Edge.told(Logs.solid(20, 12, 12, 20), "breadth(0)", 144, 1);
    }

    private static void lineOfNothing() {
        Edge.of(TERMS, LINE);
        LogsAfloat x = Logs.drawn(10, "...", "aaa");
        Edge.told(x, "breadth(0)", 0, 1);
        x.square(1, 0, 9);
        Edge.told(x, "breadth(0)", 9, 4);
    }

    private static void breadth() {
        Edge.of(TERMS, "BREADTH of places: the sum over them of the third part of what the third powers of x + 1 and x differ, less"
            + " their number times the square of the middle of their x + 1/2.");
        Edge.told(Logs.drawn(10, "5..........."), "breadth(0)", 1, 12);
        Edge.told(Logs.drawn(10, "...........5"), "breadth(0)", 1, 12);
        Edge.told(Logs.drawn(10, "5..........5"), "breadth(0)", 182, 3);
        Edge.told(Logs.drawn(10, "555555555555"), "breadth(0)", 144, 1);
        Edge.told(Logs.drawn(10, "55.........5"), "breadth(0)", 297, 4);
    }

    private static LogsAfloat alike() {
        // 6 by 5, 2 deep: BREADTH 18, ROOM 12, G 3/2 above B
        return Logs.solid(10, 6, 5, 4);
    }

    private static void holdsAlike() {
        Edge.of(TERMS, HOLDS);
        LogsAfloat x = alike();
        Edge.is(x, "holds(0)", 1);
        // a little of its weight lower, or higher
        x.square(0, 4, 3);
        x.square(0, 3, 5);
        Edge.is(x, "holds(0)", 2);
        x.square(0, 4, 5);
        x.square(0, 3, 3);
        Edge.is(x, "holds(0)", 0);
    }

    private static void holdsWithGBelowB() {
        Edge.of(TERMS, HOLDS);
        LogsAfloat same = Logs.drawn(10, "a");
        Edge.is(same, "holds(0)", 2);
        LogsAfloat low = Logs.drawn(10, "0", "0", "k");
        low.load(0, 1, 0, 10);
        Edge.told(low, "draft(0)", 3, 1);
        Edge.is(low, "holds(0)", 2);
    }

    private static void holdsWithoutBreadth() {
        Edge.of(TERMS, HOLDS);
        LogsAfloat x = Logs.drawn(10, ".", "0");
        x.load(0, 1, 0, 10);
        Edge.told(x, "breadth(0)", 0, 1);
        Edge.is(x, "holds(0)", 2);
        x.move(0, 1, 1);
        Edge.is(x, "holds(0)", 1);
        x.move(0, 1, 2);
        Edge.is(x, "holds(0)", 0);
    }

    private static void holdsOnlyLevel() {
        Edge.of(TERMS, HOLDS);
        LogsAfloat x = Logs.solid(20, 12, 1, 10);
        Edge.is(x, "holds(0)", 2);
        x.load(0, 11, 0, 1);
        Edge.is(x, "holds(0)", 0);
        x.move(0, 13, 0);
        Edge.is(x, "holds(0)", 0);
        // leaning goes ahead of alike, too
        LogsAfloat alike = alike();
        alike.square(0, 4, 3);
        alike.square(1, 4, 5);
        Edge.is(alike, "leans(0)", 2);
        Edge.is(alike, "holds(0)", 0);
    }
}
