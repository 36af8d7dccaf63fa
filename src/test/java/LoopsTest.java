/** Promises 14 to 19: loops, loop, openLoop, corrected, point, worst. */
public final class LoopsTest {
    private static final Due DUE = new Due();
    // With this base and the temperature 100 these pressures give these raw heights.
    private static final int[] PRESSURES = {99000, 98000, 99500, 98500, 100000, 101000};
    private static final int[] HEIGHTS = {83394, 167631, 41592, 125406, 0, -82565};

    /** A base of one pressure and temperature, and a limit that makes no gusts here. */
    private static BaroRuns level() {
        BaroRuns x = new BaroRuns();
        x.base(0, 100000, 100);
        x.base(1000, 100000, 100);
        x.set(1, 5000);
        return x;
    }

    private static void reads(BaroRuns x, int cell, int[] times, int[] points, int[] pressures) {
        for (int i = 0; i < times.length; i++) {
            x.read(cell, points[i], times[i], pressures[i], 100);
        }
    }

    /** Loops from 1 to 2, from 0 to 3 around it, and from 2 to 5 across the end of that. */
    private static BaroRuns threeLoops(int cell) {
        BaroRuns x = level();
        reads(x, cell, new int[] {0, 10, 30, 100, 150, 160}, new int[] {1, 2, 2, 1, 3, 2}, PRESSURES);
        return x;
    }

    private static void row(String name, int[] got, int... want) {
        for (int i = 0; i < want.length; i++) {
            DUE.is(name + " " + i, got[i], want[i]);
        }
    }

    private static int[] loopRow(BaroRuns x, int cell, int loop) {
        int[] all = new int[5];
        for (int what = 0; what < 5; what++) {
            all[what] = x.loop(cell, loop, what);
        }
        return all;
    }

    private static int[] openLoops(BaroRuns x, int cell) {
        int[] all = new int[x.count(cell + 1)];
        for (int i = 0; i < all.length; i++) {
            all[i] = x.openLoop(cell, i);
        }
        return all;
    }

    private static int[] correctedOnes(BaroRuns x, int cell) {
        int[] all = new int[x.count(cell + 1)];
        for (int i = 0; i < all.length; i++) {
            all[i] = x.corrected(cell, i);
        }
        return all;
    }

    private static int[] pointRow(BaroRuns x, int point) {
        return new int[] {x.point(point, 0), x.point(point, 1), x.point(point, 2)};
    }

    /** Promises 14 and 15. */
    private static void loops() {
        for (int cell = 0; cell < 3; cell++) {
            BaroRuns x = threeLoops(cell);
            for (int i = 0; i < HEIGHTS.length; i++) {
                DUE.is("raw height " + i, x.raw(cell, i), HEIGHTS[i]);
            }
            DUE.is("loops", x.loops(cell), 3);
            DUE.is("loops of another cell", x.loops((cell + 1) % 3), 0);
            DUE.is("loops of all cells", x.count(5), 3);
            row("loop 0 of " + cell, loopRow(x, cell, 0), 1, 2, -126039, -126039, 20);
            row("loop 1 of " + cell, loopRow(x, cell, 1), 0, 3, 42012, 42012, 100);
            row("loop 2 of " + cell, loopRow(x, cell, 2), 2, 5, -124157, -124157, 130);
            DUE.is("no loop 3", x.loop(cell, 3, 0), Due.INVALID);
            DUE.is("no loop -1", x.loop(cell, -1, 0), Due.INVALID);
            DUE.is("what below", x.loop(cell, 0, -1), Due.INVALID);
            DUE.is("what above", x.loop(cell, 0, 5), Due.INVALID);
            DUE.is("no loop there", x.loop((cell + 1) % 3, 0, 0), Due.INVALID);
        }
        BaroRuns x = threeLoops(0);
        DUE.is("loops, cell below", x.loops(-1), Due.INVALID);
        DUE.is("loops, cell above", x.loops(3), Due.INVALID);
        DUE.is("loop, cell below", x.loop(-1, 0, 0), Due.INVALID);
        DUE.is("loop, cell above", x.loop(3, 0, 0), Due.INVALID);
        DUE.is("loop, greatest number", x.loop(0, Integer.MAX_VALUE, 0), Due.INVALID);
        x.drop(0, 2);
        row("loop closes over what is dropped", loopRow(x, 0, 1), 1, 4, HEIGHTS[5] - HEIGHTS[1], -250196, 150);
    }

    /** Promises 14 to 17: just good readings make loops. */
    private static void badReadings() {
        BaroRuns x = level();
        x.set(1, 60);
        reads(x, 1, new int[] {1, 11, 21, 500}, new int[] {7, 7, 7, 8}, new int[] {99000, 98000, 99000, 99000});
        DUE.is("a gust makes no loop", x.loops(1), 1);
        row("loop around a gust", loopRow(x, 1, 0), 0, 2, 0, 0, 20);
        row("open loops", openLoops(x, 1), 0, Due.MISSING, 0, Due.MISSING);
        row("corrected heights", correctedOnes(x, 1), 83394, Due.MISSING, 83394, 83394);
        x.drop(-1, 0);
        x.base(11, 100000, 100);
        DUE.is("a reading before the base makes no loop", x.loops(1), 0);
        row("no open loops", openLoops(x, 1), Due.MISSING, Due.MISSING, Due.MISSING, Due.MISSING);
        row("no height", correctedOnes(x, 1), Due.MISSING, Due.MISSING, 83394, 83394);
        DUE.is("all gusts in a wide limit are good", x.set(1, 1000), 60);
        row("loop from the time of the base on", loopRow(x, 1, 0), 1, 2, -84237, -84237, 10);
    }

    /** Promises 14 to 19: each question sees a change at once, whichever is asked first. */
    private static void freshAnswers() {
        DUE.is("loops at first", threeLoops(1).loops(1), 3);
        DUE.is("loop at first", threeLoops(1).loop(1, 2, 4), 130);
        DUE.is("openLoop at first", threeLoops(1).openLoop(1, 4), 2);
        DUE.is("corrected at first", threeLoops(1).corrected(1, 4), 114607);
        DUE.is("point at first", threeLoops(1).point(3, 0), 114607);
        DUE.is("worst at first", threeLoops(1).worst(0), 1);
        DUE.is("raw at first", threeLoops(1).raw(1, 1), 167631);
        DUE.is("good at first", threeLoops(1).reading(1, 1, 5), 1);
        DUE.is("loops counted at first", threeLoops(1).count(5), 3);
        BaroRuns x = threeLoops(1);
        DUE.is("before the height is set", x.corrected(1, 4), 114607);
        x.set(0, 1);
        DUE.is("when the height is set", x.corrected(1, 4), 114608);
        x.undo();
        DUE.is("when this is undone", x.corrected(1, 4), 114607);
        Due.typeAll(x, "c1@3t140p100000c100;");
        x.enter();
        DUE.is("when a text is entered", x.loop(1, 2, 4), 10);
        x.drop(1, 4);
        DUE.is("when a reading is dropped", x.loop(1, 2, 4), 130);
    }

    /** Promises 16 and 17. */
    private static void openLoop() {
        BaroRuns x = threeLoops(2);
        row("open loops", openLoops(x, 2), 1, 0, 0, 1, 2, 2);
        row("corrected", correctedOnes(x, 2), 83394, 167631, 167631, 83394, 114607, 41592);
        int[][] wrong = {{-1, 0}, {3, 0}, {2, -1}, {2, 6}, {0, 0}};
        for (int[] it : wrong) {
            DUE.is("openLoop " + it[0] + " " + it[1], x.openLoop(it[0], it[1]), Due.INVALID);
            DUE.is("corrected " + it[0] + " " + it[1], x.corrected(it[0], it[1]), Due.INVALID);
        }
        BaroRuns ties = level();
        reads(ties, 0, new int[] {0, 10, 20, 30}, new int[] {1, 2, 1, 2}, PRESSURES);
        row("the lower one of two", openLoops(ties, 0), 0, 0, 0, 1);
        // 167631 - floor(-41802 * 10 / 20), 41592 + 41802, 125406 + 42225
        row("drift of it", correctedOnes(ties, 0), 83394, 188532, 83394, 167631);
        BaroRuns rounded = level();
        reads(rounded, 0, new int[] {0, 1, 2, 3}, new int[] {0, 1, 2, 0}, new int[] {99000, 99000, 99000, 98000});
        row("rising drift rounded down", correctedOnes(rounded, 0), 83394, 83394 - 28079, 83394 - 56158, 83394);
        BaroRuns falling = level();
        reads(falling, 0, new int[] {0, 1, 7}, new int[] {0, 1, 0}, new int[] {98000, 99000, 99000});
        row("falling drift rounded down", correctedOnes(falling, 0), 167631, 83394 + 12034, 167631);
    }

    /** Promise 18, and the points with a height of promise 7. */
    private static void point() {
        BaroRuns x = threeLoops(1);
        row("point 1", pointRow(x, 1), 83394, 0, 1);
        row("point 2", pointRow(x, 2), 167631, 0, 1);
        row("point 3", pointRow(x, 3), 114607, 0, 1);
        row("point 4", pointRow(x, 4), Due.MISSING, Due.MISSING, 0);
        DUE.is("points", x.count(7), 3);
        DUE.is("point below", x.point(-1, 2), Due.INVALID);
        DUE.is("point above", x.point(10, 2), Due.INVALID);
        DUE.is("what below", x.point(1, -1), Due.INVALID);
        DUE.is("what above", x.point(1, 3), Due.INVALID);
        DUE.is("what above, no height", x.point(4, 3), Due.INVALID);

        // The second reading ends a loop, but its open loop is the one that it begins.
        BaroRuns chain = level();
        reads(chain, 0, new int[] {0, 100, 110}, new int[] {1, 1, 1}, new int[] {99000, 98500, 98000});
        row("open loops of the chain", openLoops(chain, 0), 0, 1, 1);
        row("point of the chain", pointRow(chain, 1), 104400, 42012, 2);

        BaroRuns cells = level();
        cells.read(0, 9, 5, 101000, 100);
        cells.read(1, 9, 5, 100000, 100);
        row("two cells, rounded down", pointRow(cells, 9), -41283, 82565, 2);
        cells.read(2, 9, 1000, 99000, 100);
        row("three cells", pointRow(cells, 9), 276, 165959, 3);
        cells.read(2, 9, 1001, 99000, 100);
        row("no base, no part", pointRow(cells, 9), 276, 165959, 3);
        DUE.is("one point", cells.count(7), 1);
        cells.set(0, 10);
        row("higher", pointRow(cells, 9), 286, 165959, 3);

        BaroRuns gust = level();
        gust.set(1, 999);
        reads(gust, 0, new int[] {0, 1, 2}, new int[] {0, 5, 0}, new int[] {99000, 98000, 99000});
        row("a gust gives no height", pointRow(gust, 5), Due.MISSING, Due.MISSING, 0);
        gust.set(1, 1000);
        row("no gust any more", pointRow(gust, 5), 167631, 0, 1);
    }

    /** Promise 19. */
    private static void worst() {
        BaroRuns x = level();
        DUE.is("no loops, cell", x.worst(0), Due.MISSING);
        DUE.is("no loops, loop", x.worst(1), Due.MISSING);
        DUE.is("what below", x.worst(-1), Due.INVALID);
        DUE.is("what above", x.worst(2), Due.INVALID);
        int[] times = {0, 10, 20};
        int[] points = {1, 1, 1};
        reads(x, 2, times, points, new int[] {99000, 99000, 99000});
        DUE.is("misclosure 0, cell", x.worst(0), 2);
        DUE.is("misclosure 0, the lowest loop", x.worst(1), 0);
        reads(x, 1, times, points, new int[] {99000, 99000, 98000});
        DUE.is("greater, cell", x.worst(0), 1);
        DUE.is("greater, loop", x.worst(1), 1);
        reads(x, 0, times, points, new int[] {98000, 99000, 98000});
        DUE.is("same size, the lowest cell", x.worst(0), 0);
        DUE.is("same size, the lowest loop", x.worst(1), 0);
        x.drop(2, 2);
        x.read(2, 1, 30, 101000, 100);
        DUE.is("falling more, cell", x.worst(0), 2);
        DUE.is("falling more, loop", x.worst(1), 1);
        x.undo();
        DUE.is("undone, cell", x.worst(0), 0);
    }

    public static void main(String[] args) {
        loops();
        badReadings();
        freshAnswers();
        openLoop();
        point();
        worst();
        DUE.end();
    }
}
