/** Terms, loops, drift and points: each sentence that names a boundary, with a test of its own. */
public final class LoopsEdgesTest {
    private static final Due DUE = new Due();
    private static final int NONE = Due.MISSING;

    /** Readings of cell 0 on a base that gives 99000 the height 83394; no gusts up to 5000. */
    private static BaroRuns cell(int[] times, int[] points, int... pressures) {
        return Made.reads(Made.quiet(), 0, times, points, pressures);
    }

    private static BaroRuns atPoints(int... points) {
        int[] times = new int[points.length];
        int[] pressures = new int[points.length];
        for (int i = 0; i < points.length; i++) {
            times[i] = 10 * i;
            pressures[i] = 99000;
        }
        return cell(times, points, pressures);
    }

    /** Begin and end of each loop of a cell, one behind the other. */
    private static int[] loopRow(BaroRuns x, int cell) {
        int[] all = new int[2 * x.loops(cell)];
        for (int i = 0; i < all.length; i++) {
            all[i] = x.loop(cell, i / 2, i % 2);
        }
        DUE.is("no loop behind the last", x.loop(cell, all.length / 2, 0), Due.INVALID);
        DUE.is("no loop before the first", x.loop(cell, -1, 0), Due.INVALID);
        return all;
    }

    private static int[] openRow(BaroRuns x) {
        int[] all = new int[x.count(1)];
        for (int i = 0; i < all.length; i++) {
            all[i] = x.openLoop(0, i);
        }
        return all;
    }

    private static int[] correctedRow(BaroRuns x) {
        int[] all = new int[x.count(1)];
        for (int i = 0; i < all.length; i++) {
            all[i] = x.corrected(0, i);
        }
        return all;
    }

    private static int[] pointRow(BaroRuns x, int point) {
        return new int[] {x.point(point, 0), x.point(point, 1), x.point(point, 2)};
    }

    // ---- good readings

    private static final String GOOD = "The good readings of a cell are those that have a raw height and are no gusts.";

    private static void goodOrNot() {
        DUE.sentence(GOOD);
        BaroRuns x = new BaroRuns();
        x.base(10, 100000, 100);
        x.base(30, 100000, 100);
        Made.reads(x, 0, new int[] {0, 5, 10, 20, 30, 31, 32}, new int[7],
            new int[] {99000, 98000, 99000, 98000, 99000, 98000, 99000});
        int[] kinds = new int[14];
        for (int i = 0; i < 14; i++) {
            kinds[i] = x.reading(0, i / 2, 4 + i % 2);
        }
        DUE.row("gust and good of each", kinds, 0, 0, 1, 0, 1, 0, 1, 0, 1, 0, 1, 0, 0, 0);
        DUE.is("none is good", x.count(13), 0);
        x.set(1, 1000);
        DUE.is("all in the time of the base are good", x.count(13), 3);
        x.drop(-1, 0);
        DUE.is("just the one at the time of the base", x.count(13), 1);
        DUE.is("it is good", x.reading(0, 4, 5), 1);
        x.drop(-1, 0);
        DUE.is("none without a base", x.count(13), 0);
    }

    // ---- loops

    private static final String LOOP = "A loop of a cell is a pair of good readings, from i to k, at the same point,"
        + " i before k, between which no good reading is at this point";

    private static void noLoop() {
        DUE.sentence(LOOP);
        DUE.row("no reading", loopRow(Made.quiet(), 0));
        DUE.row("one reading", loopRow(atPoints(4), 0));
        DUE.row("two points", loopRow(atPoints(0, 9), 0));
        DUE.row("ten points", loopRow(atPoints(0, 1, 2, 3, 4, 5, 6, 7, 8, 9), 0));
    }

    private static void nextVisitAlone() {
        DUE.sentence(LOOP);
        DUE.row("two visits", loopRow(atPoints(4, 4), 0), 0, 1);
        DUE.row("three visits", loopRow(atPoints(4, 4, 4), 0), 0, 1, 1, 2);
        DUE.row("other points between", loopRow(atPoints(4, 5, 6, 4, 7, 4), 0), 0, 3, 3, 5);
    }

    private static void visitsThatAreNotGood() {
        DUE.sentence(LOOP);
        BaroRuns x = Made.level();
        Made.reads(x, 0, new int[] {0, 10, 20, 30}, new int[] {4, 4, 5, 4}, new int[] {99000, 98000, 99000, 99000});
        DUE.row("a gust is left out", loopRow(x, 0), 0, 3);
        BaroRuns late = new BaroRuns();
        late.base(10, 100000, 100);
        late.base(20, 100000, 100);
        Made.reads(late, 0, new int[] {9, 10, 20, 21}, new int[4], new int[] {99000, 99000, 99000, 99000});
        DUE.row("before and behind the base", loopRow(late, 0), 1, 2);
    }

    private static void loopsOfOneCell() {
        DUE.sentence(LOOP);
        BaroRuns x = Made.quiet();
        for (int cell = 0; cell <= 2; cell++) {
            x.read(cell, 4, 10, 99000, 100);
            x.read(cell, 5, 20 + cell, 99000, 100);
        }
        DUE.is("visits of other cells close nothing", x.count(5), 0);
        for (int cell = 0; cell <= 2; cell++) {
            x.read(cell, 4, 30, 99000, 100);
            DUE.row("of cell " + cell, loopRow(x, cell), 0, 2);
            DUE.is("all loops", x.count(5), cell + 1);
        }
    }

    private static void mostLoops() {
        DUE.sentence(LOOP);
        BaroRuns x = atPoints(new int[20]);
        int[] due = new int[38];
        for (int i = 0; i < 38; i++) {
            due[i] = i / 2 + i % 2;
        }
        DUE.row("nineteen loops", loopRow(x, 0), due);
        DUE.is("counted", x.count(5), 19);
    }

    private static void numberedByEnds() {
        DUE.sentence("loops are numbered from 0 by their ends, the ones with lower numbers first");
        DUE.row("one in the other", loopRow(atPoints(1, 2, 2, 1), 0), 1, 2, 0, 3);
        DUE.row("three in one another", loopRow(atPoints(1, 2, 3, 3, 2, 1), 0), 2, 3, 1, 4, 0, 5);
        DUE.row("one across the other", loopRow(atPoints(1, 2, 1, 2), 0), 0, 2, 1, 3);
    }

    private static int misclosure(int first, int last) {
        BaroRuns x = cell(new int[] {0, 10, 1000}, new int[] {1, 2, 1}, first, first, last);
        DUE.is("in the second way", x.loop(0, 0, 3), x.loop(0, 0, 2));
        return x.loop(0, 0, 2);
    }

    private static void misclosures() {
        DUE.sentence("The misclosure of a loop is (raw height of k) - (raw height of i).");
        DUE.is("closed", misclosure(99000, 99000), 0);
        DUE.is("risen", misclosure(100000, 99000), 83394);
        DUE.is("fallen", misclosure(99000, 100000), -83394);
        DUE.is("from lowest to highest", misclosure(110000, 50000), 5531840 + 790263);
        DUE.is("from highest to lowest", misclosure(50000, 110000), -790263 - 5531840);
    }

    // ---- open loops

    private static final String OPEN = "The open loop of a cell at a good reading is the loop with the least time from"
        + " its begin to its end, among those (at any point) for which the reading is the begin, the end,"
        + " or lies between, of several the one with the lowest number.";

    private static void noOpenLoop() {
        DUE.sentence(OPEN);
        DUE.row("no loops", openRow(atPoints(1, 2, 3)), NONE, NONE, NONE);
        DUE.row("before and behind the loop", openRow(atPoints(3, 1, 2, 1, 4)), NONE, 0, 0, 0, NONE);
        DUE.row("between two loops", openRow(atPoints(1, 1, 2, 3, 3)), 0, 0, NONE, 1, 1);
    }

    private static void leastTime() {
        DUE.sentence(OPEN);
        int[] points = {1, 2, 1, 2};
        DUE.row("the later one is shorter by a minute",
            openRow(cell(new int[] {0, 10, 20, 29}, points, 99000, 99000, 99000, 99000)), 0, 1, 1, 1);
        DUE.row("the later one is longer by a minute",
            openRow(cell(new int[] {0, 10, 20, 31}, points, 99000, 99000, 99000, 99000)), 0, 0, 0, 1);
        DUE.row("the inner one is shorter", openRow(atPoints(1, 2, 3, 2, 1)), 1, 0, 0, 0, 1);
    }

    private static void sameTime() {
        DUE.sentence(OPEN);
        DUE.row("two of the same time", openRow(atPoints(1, 2, 1, 2)), 0, 0, 0, 1);
        DUE.row("three of the same time", openRow(atPoints(1, 2, 3, 1, 2, 3)), 0, 0, 0, 0, 1, 2);
        DUE.row("one behind the other", openRow(atPoints(5, 5, 5, 5)), 0, 0, 1, 2);
    }

    private static void openLoopOfGoodOnes() {
        DUE.sentence(OPEN);
        BaroRuns x = Made.level();
        Made.reads(x, 0, new int[] {0, 10, 20}, new int[] {4, 5, 4}, new int[] {99000, 98000, 99000});
        DUE.row("a gust in a loop has none", openRow(x), 0, NONE, 0);
    }

    private static final String CORRECTED = "The corrected height of a good reading is its raw height -"
        + " (misclosure of its open loop) * (its time - the time of the begin of the loop)"
        + " / (the time of the end - that of the begin)";

    private static void beginAndEnd() {
        DUE.sentence(CORRECTED);
        DUE.row("the end gets the height of the begin",
            correctedRow(cell(new int[] {3, 7, 10}, new int[] {1, 2, 1}, 98000, 98000, 99000)),
            167631, 167631 + 48136, 167631);
        DUE.row("a loop of one minute", correctedRow(cell(new int[] {4, 5}, new int[2], 99000, 98000)), 83394, 83394);
        DUE.row("a closed loop",
            correctedRow(cell(new int[] {0, 1, 2}, new int[] {1, 2, 1}, 99000, 98000, 99000)), 83394, 167631, 83394);
    }

    private static void correctedRoundedDown() {
        DUE.sentence("divisions are rounded down (toward negative infinity); .. " + CORRECTED);
        DUE.row("rising: 42012 of 5 minutes", correctedRow(cell(new int[] {0, 1, 4, 5}, new int[] {1, 2, 3, 1},
            99000, 99000, 99000, 98500)), 83394, 83394 - 8402, 83394 - 33609, 83394);
        DUE.row("falling: -42012 of 5 minutes", correctedRow(cell(new int[] {0, 1, 4, 5}, new int[] {1, 2, 3, 1},
            98500, 99000, 99000, 99000)), 125406, 83394 + 8403, 83394 + 33610, 125406);
    }

    private static BaroRuns longLoop(int first, int middle, int last) {
        BaroRuns x = new BaroRuns();
        x.set(1, 5000);
        x.base(0, 100000, 100);
        x.base(10000, 100000, 100);
        return Made.reads(x, 0, new int[] {0, 5000, 10000}, new int[] {1, 2, 1}, new int[] {first, middle, last});
    }

    private static void correctedBeyondAnInt() {
        DUE.sentence("All numbers are whole numbers; .. " + CORRECTED);
        DUE.row("falling by -6322103", correctedRow(longLoop(50000, 80000, 110000)), 5531840, 5004998, 5531840);
        DUE.row("rising by 6322103", correctedRow(longLoop(110000, 80000, 50000)), -790263, -1317105, -790263);
    }

    private static void correctedWithoutLoop() {
        DUE.sentence("without an open loop it is the raw height");
        DUE.row("no loops", correctedRow(cell(new int[] {0, 1}, new int[] {1, 2}, 99000, 101000)), 83394, -82565);
        DUE.row("beside a loop", correctedRow(cell(new int[] {0, 1, 2, 3}, new int[] {3, 1, 1, 4},
            98000, 99000, 99500, 98500)), 167631, 83394, 83394, 125406);
    }

    // ---- points

    private static final String POINT = "The height of a point is the sum of the corrected heights of all good readings"
        + " at it (of all cells), divided by their number";

    private static void noReadingsAtPoint() {
        DUE.sentence(POINT);
        for (int point = 0; point <= 9; point++) {
            DUE.row("nothing read at " + point, pointRow(new BaroRuns(), point), NONE, NONE, 0);
        }
        BaroRuns x = Made.level();
        Made.reads(x, 0, new int[] {0, 10, 20, 1001}, new int[] {1, 2, 3, 4}, new int[] {99000, 98000, 99000, 99000});
        DUE.row("just a gust", pointRow(x, 2), NONE, NONE, 0);
        DUE.row("just one behind the base", pointRow(x, 4), NONE, NONE, 0);
        DUE.is("points with a height", x.count(7), 2);
    }

    private static void oneReadingAtPoint() {
        DUE.sentence(POINT);
        for (int point = 0; point <= 9; point++) {
            BaroRuns x = Made.quiet();
            x.read(point % 3, point, 10, 101000, 100);
            DUE.row("read once at " + point, pointRow(x, point), -82565, 0, 1);
            DUE.is("points with a height", x.count(7), 1);
        }
    }

    private static void allPoints() {
        DUE.sentence(POINT);
        BaroRuns x = atPoints(0, 1, 2, 3, 4, 5, 6, 7, 8, 9, 0, 1, 2, 3, 4, 5, 6, 7, 8, 9);
        DUE.is("points with a height", x.count(7), 10);
    }

    private static void sumOfAllCells() {
        DUE.sentence(POINT);
        BaroRuns x = Made.quiet();
        x.read(0, 7, 5, 101000, 100);
        DUE.row("one cell", pointRow(x, 7), -82565, 0, 1);
        x.read(1, 7, 5, 100000, 100);
        DUE.row("two cells, rounded down below 0", pointRow(x, 7), -41283, 82565, 2);
        x.read(2, 7, 5, 99000, 100);
        DUE.row("three cells", pointRow(x, 7), 276, 83394 + 82565, 3);
        x.read(2, 8, 6, 98000, 100);
        DUE.row("another point", pointRow(x, 7), 276, 83394 + 82565, 3);
        x.drop(0, 0);
        DUE.row("rounded down above 0", pointRow(x, 7), 41697, 83394, 2);
    }

    private static final String ENDS = "the ends of loops are left out, as they say the same as their begins"
        + " (just the readings whose open loop ends with them)";

    private static void endLeftOut() {
        DUE.sentence(ENDS);
        BaroRuns x = cell(new int[] {0, 10, 20}, new int[] {1, 2, 1}, 99000, 98000, 98500);
        DUE.row("the begin alone", pointRow(x, 1), 83394, 0, 1);
        DUE.row("one between stays", pointRow(x, 2), 167631 - 21006, 0, 1);
    }

    private static void endThatBeginsAShorterLoop() {
        DUE.sentence(ENDS);
        BaroRuns x = cell(new int[] {0, 10, 19}, new int[] {1, 1, 1}, 99000, 98000, 98500);
        DUE.row("stays", pointRow(x, 1), 125512, 84237, 2);
        BaroRuns same = cell(new int[] {0, 10, 20}, new int[] {1, 1, 1}, 99000, 98000, 98500);
        DUE.row("is left out if that is as long", pointRow(same, 1), 83394, 0, 1);
    }

    private static void endInAShorterLoop() {
        DUE.sentence(ENDS);
        int[] points = {1, 2, 1, 2};
        BaroRuns shorter = cell(new int[] {0, 10, 20, 29}, points, 99000, 98000, 99500, 98000);
        DUE.row("stays", pointRow(shorter, 1), 62493, 41802, 2);
        DUE.row("the end of the shorter one does not", pointRow(shorter, 2), 167631, 0, 1);
        BaroRuns same = cell(new int[] {0, 10, 20, 30}, points, 99000, 98000, 99500, 98000);
        DUE.row("is left out if that is as long", pointRow(same, 1), 83394, 0, 1);
    }

    private static void mostReadingsAtPoint() {
        DUE.sentence(ENDS);
        BaroRuns x = Made.quiet();
        x.set(0, 9000000);
        for (int cell = 0; cell <= 2; cell++) {
            // Each loop is shorter than the one before it, so that each reading but the last begins its open loop.
            int time = 0;
            for (int i = 0; i < 20; i++) {
                x.read(cell, 3, time, 50000, 100);
                time += 40 - i;
            }
        }
        DUE.row("all but the last of each cell", pointRow(x, 3), 14531840, 0, 57);
    }

    private static final String SPREAD = "The spread of a point is the greatest minus the least of the heights"
        + " in this sum.";

    private static int spread(int... pressures) {
        BaroRuns x = Made.quiet();
        for (int cell = 0; cell < pressures.length; cell++) {
            x.read(cell, 6, 10, pressures[cell], 100);
        }
        return x.point(6, 1);
    }

    private static void spreads() {
        DUE.sentence(SPREAD);
        DUE.is("of none", spread(), NONE);
        DUE.is("of one", spread(99000), 0);
        DUE.is("of equal ones", spread(99000, 99000, 99000), 0);
        DUE.is("the greatest first", spread(98000, 99000, 99500), 167631 - 41592);
        DUE.is("the greatest in the middle", spread(99500, 98000, 99000), 167631 - 41592);
        DUE.is("the greatest last", spread(99000, 99500, 98000), 167631 - 41592);
        DUE.is("all below 0", spread(101000, 100001, 110000), 790263 - 83);
        DUE.is("from lowest to highest", spread(110000, 50000), 5531840 + 790263);
    }

    private static void spreadOfTheSum() {
        DUE.sentence(SPREAD);
        BaroRuns x = cell(new int[] {0, 10, 20, 30}, new int[] {1, 2, 1, 1}, 99000, 98000, 98500, 98500);
        // The open loop of the reading at 20 is the later one, of 10 minutes, which it begins.
        DUE.row("of heights without drift", pointRow(x, 1), 104400, 42012, 2);
    }

    // ---- the second way

    private static final String SECOND = "the sum, over all good readings of the cell (at all points) behind the begin"
        + " up to the end, of (raw height) - (raw height of the good reading before it)";

    private static void secondWay() {
        DUE.sentence(SECOND);
        BaroRuns x = cell(new int[] {0, 10, 20, 30, 40, 50}, new int[] {3, 1, 2, 2, 1, 4},
            98000, 99000, 101000, 99500, 98500, 100000);
        DUE.is("nothing between", x.loop(0, 0, 3), 41592 + 82565);
        DUE.is("two between", x.loop(0, 1, 3), 125406 - 83394);
        BaroRuns gust = Made.level();
        Made.reads(gust, 0, new int[] {0, 10, 20, 30}, new int[] {1, 2, 3, 1}, new int[] {99000, 98000, 99000, 99030});
        DUE.is("a gust between", gust.loop(0, 0, 3), gust.raw(0, 3) - 83394);
    }

    private static void loops() {
        goodOrNot();
        noLoop();
        nextVisitAlone();
        visitsThatAreNotGood();
        loopsOfOneCell();
        mostLoops();
        numberedByEnds();
        misclosures();
        secondWay();
    }

    private static void drift() {
        noOpenLoop();
        leastTime();
        sameTime();
        openLoopOfGoodOnes();
        beginAndEnd();
        correctedRoundedDown();
        correctedBeyondAnInt();
        correctedWithoutLoop();
    }

    private static void points() {
        noReadingsAtPoint();
        oneReadingAtPoint();
        allPoints();
        sumOfAllCells();
        endLeftOut();
        endThatBeginsAShorterLoop();
        endInAShorterLoop();
        mostReadingsAtPoint();
        spreads();
        spreadOfTheSum();
    }

    public static void main(String[] args) {
        loops();
        drift();
        points();
        DUE.end();
    }
}
