import java.util.function.IntSupplier;

/** Promises 3 to 23: each sentence that says when a call is refused, or has no answer, with a test of its own. */
public final class RefusalsEdgesTest {
    private static final Due DUE = new Due();
    private static final int NONE = Due.MISSING;

    private static int[] answers(IntSupplier... calls) {
        int[] all = new int[calls.length];
        for (int i = 0; i < all.length; i++) {
            all[i] = calls[i].getAsInt();
        }
        return all;
    }

    /** A base from 10 to 20; the cell reads at 9, 10, 15, 20 and 21, and its reading at 15 is a gust. */
    private static BaroRuns around(int cell) {
        BaroRuns x = new BaroRuns();
        x.base(10, 100000, 100);
        x.base(20, 100000, 100);
        return Made.reads(x, cell, new int[] {9, 10, 15, 20, 21}, new int[] {1, 2, 3, 2, 4},
            new int[] {99000, 99000, 98000, 99000, 99000});
    }

    private static void baseTimeTaken() {
        DUE.sentence("base .. NOT_POSSIBLE if there is one at this time");
        BaroRuns x = Made.bases(3);
        DUE.row("the times taken",
            answers(() -> x.base(0, 99000, 0), () -> x.base(10, 99000, 0), () -> x.base(20, 99000, 0)),
            Due.IMPOSSIBLE, Due.IMPOSSIBLE, Due.IMPOSSIBLE);
        DUE.row("a minute beside", answers(() -> x.base(1, 99000, 0), () -> x.base(9, 99000, 0),
            () -> x.base(11, 99000, 0), () -> x.base(21, 99000, 0)), 1, 2, 4, 6);
    }

    private static void baseOfTwelve() {
        DUE.sentence("base .. LIMIT_REACHED if there are 12");
        BaroRuns x = new BaroRuns();
        for (int i = 0; i < 12; i++) {
            DUE.is("base as number " + i, x.base(i, 99000, 0), i);
        }
        DUE.row("more", answers(() -> x.base(12, 99000, 0), () -> x.base(10000, 99000, 0)), Due.FULL, Due.FULL);
    }

    private static void cellTimeTaken() {
        DUE.sentence("read .. NOT_POSSIBLE if there is one of the cell at this time");
        for (int cell = 0; cell <= 2; cell++) {
            BaroRuns x = Made.cells(cell, 3);
            int it = cell;
            int other = (cell + 1) % 3;
            DUE.row("the times taken", answers(() -> x.read(it, 9, 0, 98000, 1), () -> x.read(it, 9, 10, 98000, 1),
                () -> x.read(it, 9, 20, 98000, 1)), Due.IMPOSSIBLE, Due.IMPOSSIBLE, Due.IMPOSSIBLE);
            DUE.row("in another cell", answers(() -> x.read(other, 9, 10, 98000, 1), () -> x.base(10, 98000, 1)), 0, 0);
            DUE.row("a minute beside", answers(() -> x.read(it, 0, 1, 98000, 1), () -> x.read(it, 0, 21, 98000, 1)),
                1, 4);
        }
    }

    private static void cellOfTwenty() {
        DUE.sentence("read .. LIMIT_REACHED if the cell has 20");
        for (int cell = 0; cell <= 2; cell++) {
            BaroRuns x = new BaroRuns();
            for (int i = 0; i < 20; i++) {
                DUE.is("read as number " + i, x.read(cell, 0, i, 99000, 0), i);
            }
            DUE.is("read one more", x.read(cell, 0, 20, 99000, 0), Due.FULL);
            DUE.is("read in another cell", x.read((cell + 1) % 3, 0, 20, 99000, 0), 0);
        }
    }

    private static void noReadingToDrop() {
        DUE.sentence("drop .. INVALID_ARGUMENT");
        BaroRuns x = around(0);
        DUE.row("no such reading", answers(() -> x.drop(0, 5), () -> x.drop(0, -1), () -> x.drop(1, 0),
            () -> x.drop(-1, 2)), Due.INVALID, Due.INVALID, Due.INVALID, Due.INVALID);
        DUE.row("no such cell", answers(() -> x.drop(-2, 0), () -> x.drop(3, 0)), Due.INVALID, Due.INVALID);
        DUE.row("the last ones", answers(() -> x.drop(0, 4), () -> x.drop(-1, 1)), 4, 1);
    }

    private static void nothingToUndo() {
        DUE.sentence("undo .. NOT_POSSIBLE if it is empty");
        BaroRuns x = new BaroRuns();
        DUE.row("undo around one change", answers(x::undo, () -> x.set(0, 1), x::undo, x::undo),
            Due.IMPOSSIBLE, 0, 0, Due.IMPOSSIBLE);
    }

    private static void baseHasNone() {
        DUE.sentence("baseAt .. NOT_FOUND if it has none");
        BaroRuns x = around(0);
        for (int what = 0; what <= 1; what++) {
            int it = what;
            int value = what == 0 ? 100000 : 100;
            DUE.row("baseAt", answers(() -> x.baseAt(0, it), () -> x.baseAt(9, it), () -> x.baseAt(10, it),
                () -> x.baseAt(20, it), () -> x.baseAt(21, it), () -> x.baseAt(10000, it)),
                NONE, NONE, value, value, NONE, NONE);
        }
    }

    private static void noSuchStep() {
        DUE.sentence("step .. INVALID_ARGUMENT if there is no such step");
        BaroRuns x = new BaroRuns();
        DUE.is("no base", x.step(0), Due.INVALID);
        x.base(0, 99000, 0);
        DUE.is("one reading", x.step(0), Due.INVALID);
        x.base(1, 99000, 49);
        DUE.is("no step", x.step(0), Due.INVALID);
        x.base(2, 99000, 99);
        DUE.row("one step", answers(() -> x.step(-1), () -> x.step(0), () -> x.step(1)), Due.INVALID, 2, Due.INVALID);
    }

    private static void noRawHeight() {
        DUE.sentence("raw .. a gust or not .. NOT_FOUND if it has none");
        for (int cell = 0; cell <= 2; cell++) {
            BaroRuns x = around(cell);
            int it = cell;
            DUE.row("raw", answers(() -> x.raw(it, 0), () -> x.raw(it, 1), () -> x.raw(it, 2), () -> x.raw(it, 3),
                () -> x.raw(it, 4)), NONE, 83394, 167631, 83394, NONE);
        }
    }

    private static void noPressureThen() {
        DUE.sentence("would .. NOT_FOUND if the base has no pressure then");
        BaroRuns x = around(0);
        DUE.row("would", answers(() -> x.would(0, 99000, 100), () -> x.would(9, 99000, 100),
            () -> x.would(10, 99000, 100), () -> x.would(20, 99000, 100), () -> x.would(21, 99000, 100),
            () -> x.would(10000, 99000, 100)), NONE, NONE, 83394, 83394, NONE, NONE);
    }

    private static void noPressureFor() {
        DUE.sentence("pressureFor .. NOT_FOUND if there is none, or the base has no pressure then");
        BaroRuns x = around(0);
        DUE.row("no pressure then", answers(() -> x.pressureFor(9, 100, -1000000),
            () -> x.pressureFor(21, 100, -1000000)), NONE, NONE);
        DUE.row("none is that low", answers(() -> x.pressureFor(10, 100, 5531840),
            () -> x.pressureFor(10, 100, 5531841), () -> x.pressureFor(20, 100, 5531840),
            () -> x.pressureFor(20, 100, 5531841)), 50000, NONE, 50000, NONE);
        DUE.row("all are that high", answers(() -> x.pressureFor(10, 100, -790263),
            () -> x.pressureFor(10, 100, -1000000)), 110000, 110000);
    }

    private static void numberOfLoops() {
        DUE.sentence("loops .. Returns the number of loops of a cell .. INVALID_ARGUMENT");
        for (int cell = 0; cell <= 2; cell++) {
            BaroRuns x = around(cell);
            int it = cell;
            DUE.row("loops", answers(() -> x.loops(it), () -> x.loops((it + 1) % 3), () -> x.loops((it + 2) % 3),
                () -> x.loops(-1), () -> x.loops(3)), 1, 0, 0, Due.INVALID, Due.INVALID);
        }
    }

    private static void partsOfALoop() {
        DUE.sentence("loop .. Returns the number; INVALID_ARGUMENT if an argument is out of range");
        BaroRuns x = around(1);
        int[] parts = new int[7];
        for (int what = -1; what <= 5; what++) {
            parts[what + 1] = x.loop(1, 0, what);
        }
        DUE.row("parts -1 to 5", parts, Due.INVALID, 1, 3, 0, 0, 10, Due.INVALID);
        DUE.row("no such loop", answers(() -> x.loop(1, 1, 0), () -> x.loop(1, -1, 0), () -> x.loop(0, 0, 0)),
            Due.INVALID, Due.INVALID, Due.INVALID);
    }

    private static void noOpenLoop() {
        DUE.sentence("openLoop .. NOT_FOUND if there is none, or the reading is not good");
        for (int cell = 0; cell <= 2; cell++) {
            BaroRuns x = around(cell);
            int it = cell;
            DUE.row("before, begin, gust, end, behind", answers(() -> x.openLoop(it, 0), () -> x.openLoop(it, 1),
                () -> x.openLoop(it, 2), () -> x.openLoop(it, 3), () -> x.openLoop(it, 4)), NONE, 0, NONE, 0, NONE);
            x.set(1, 1000);
            DUE.is("good now", x.openLoop(it, 2), 0);
            x.drop(it, 3);
            DUE.row("no loop", answers(() -> x.openLoop(it, 1), () -> x.openLoop(it, 2)), NONE, NONE);
        }
    }

    private static void notCorrected() {
        DUE.sentence("corrected .. NOT_FOUND if the reading is not good");
        for (int cell = 0; cell <= 2; cell++) {
            BaroRuns x = around(cell);
            int it = cell;
            DUE.row("before, begin, gust, end, behind", answers(() -> x.corrected(it, 0), () -> x.corrected(it, 1),
                () -> x.corrected(it, 2), () -> x.corrected(it, 3), () -> x.corrected(it, 4)),
                NONE, 83394, NONE, 83394, NONE);
            x.set(1, 1000);
            DUE.is("good now", x.corrected(it, 2), 167631);
        }
    }

    private static void pointOfNoReadings() {
        DUE.sentence("point .. 0 for 2 if no readings give it; .. NOT_FOUND for 0 and 1 if no readings give it");
        BaroRuns x = around(2);
        for (int point = 0; point <= 9; point++) {
            int it = point;
            boolean some = point == 2;
            DUE.row("point " + point, answers(() -> x.point(it, 0), () -> x.point(it, 1), () -> x.point(it, 2)),
                some ? 83394 : NONE, some ? 0 : NONE, some ? 1 : 0);
        }
    }

    private static void noWorstLoop() {
        DUE.sentence("worst .. NOT_FOUND if there are no loops");
        BaroRuns x = around(2);
        DUE.row("one loop", answers(() -> x.worst(0), () -> x.worst(1)), 2, 0);
        x.drop(2, 1);
        DUE.row("no loops", answers(() -> x.worst(0), () -> x.worst(1)), NONE, NONE);
        x.undo();
        DUE.row("back", answers(() -> x.worst(0), () -> x.worst(1)), 2, 0);
    }

    private static void textFull() {
        DUE.sentence("type .. INVALID_ARGUMENT if character is out of range; LIMIT_REACHED if it has 100 characters");
        BaroRuns x = Made.typed(new BaroRuns(), "b".repeat(98));
        DUE.row("type", answers(() -> x.type(31), () -> x.type(127), () -> x.type(32), () -> x.type(126),
            () -> x.type(32), () -> x.type(126), () -> x.type(31), () -> x.type(127)),
            Due.INVALID, Due.INVALID, 99, 100, Due.FULL, Due.FULL, Due.INVALID, Due.INVALID);
    }

    private static void noFault() {
        DUE.sentence("fault .. NOT_FOUND if the text has no fault (also if it is empty)");
        BaroRuns x = new BaroRuns();
        DUE.row("empty", answers(() -> x.fault(0), () -> x.fault(1)), NONE, NONE);
        Made.typed(x, "bt7p99000c7");
        DUE.row("not ended", answers(() -> x.fault(0), () -> x.fault(1)), 0, 1);
        x.type(';');
        DUE.row("a reading", answers(() -> x.fault(0), () -> x.fault(1)), NONE, NONE);
        x.type(';');
        DUE.row("one end more", answers(() -> x.fault(0), () -> x.fault(1)), 12, 1);
        x.clearText();
        DUE.row("empty again", answers(() -> x.fault(0), () -> x.fault(1)), NONE, NONE);
    }

    private static void notEntered() {
        DUE.sentence("enter .. Returns how many there are in it; NOT_POSSIBLE if it has a fault");
        BaroRuns x = new BaroRuns();
        DUE.is("nothing typed", x.enter(), 0);
        Made.typed(x, "bt7p99000c7");
        DUE.is("not ended", x.enter(), Due.IMPOSSIBLE);
        x.type(';');
        DUE.is("one reading", x.enter(), 1);
        DUE.is("its time is there now", x.enter(), Due.IMPOSSIBLE);
        x.drop(-1, 0);
        Made.typed(x, "bt8p99000c7;");
        DUE.is("two readings", x.enter(), 2);
        DUE.is("readings of the base", x.count(0), 2);
    }

    private static void readings() {
        baseTimeTaken();
        baseOfTwelve();
        cellTimeTaken();
        cellOfTwenty();
        noReadingToDrop();
        nothingToUndo();
    }

    private static void heights() {
        baseHasNone();
        noSuchStep();
        noRawHeight();
        noPressureThen();
        noPressureFor();
    }

    private static void loops() {
        numberOfLoops();
        partsOfALoop();
        noOpenLoop();
        notCorrected();
        pointOfNoReadings();
        noWorstLoop();
    }

    public static void main(String[] args) {
        readings();
        heights();
        loops();
        textFull();
        noFault();
        notEntered();
        DUE.end();
    }
}
