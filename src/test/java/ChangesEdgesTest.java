import java.util.ArrayList;
import java.util.List;
import java.util.function.Supplier;
import java.util.function.ToIntFunction;

/** Terms, changes and errors: each sentence that names a boundary, with a test of its own. */
public final class ChangesEdgesTest {
    private static final Due DUE = new Due();

    // ---- what a change is

    private static final String CHANGES = "The changes are the calls of set, base, read, drop and enter"
        + " that return no error (also if nothing becomes different).";

    /** The call answers this and is so many changes: 1 or 0. */
    private static void changes(String call, Supplier<BaroRuns> made, ToIntFunction<BaroRuns> called, int answer,
            int number) {
        BaroRuns x = made.get();
        int before = x.count(8);
        DUE.is(call, called.applyAsInt(x), answer);
        DUE.is("states behind " + call, x.count(8), before + number);
    }

    private static void fiveKindsOfChanges() {
        DUE.sentence(CHANGES);
        changes("set", Made::level, x -> x.set(0, 5), 0, 1);
        changes("base", Made::level, x -> x.base(500, 100000, 100), 1, 1);
        changes("read", Made::level, x -> x.read(0, 1, 500, 100000, 100), 0, 1);
        changes("drop of the base", Made::level, x -> x.drop(-1, 0), 1, 1);
        changes("drop of a cell", () -> Made.cells(2, 3), x -> x.drop(2, 2), 2, 1);
        changes("enter", () -> Made.typed(Made.level(), "bt1p99000c0;bt2p99000c0;"), x -> x.enter(), 2, 1);
    }

    private static void changesThatChangeNothing() {
        DUE.sentence(CHANGES);
        changes("set to the same height", BaroRuns::new, x -> x.set(0, 0), 0, 1);
        changes("set to the same gust limit", BaroRuns::new, x -> x.set(1, 60), 60, 1);
        changes("set to the same step limit", BaroRuns::new, x -> x.set(2, 50), 50, 1);
        changes("enter of an empty text", BaroRuns::new, x -> x.enter(), 0, 1);
        BaroRuns x = new BaroRuns();
        x.set(0, 0);
        DUE.is("undo of no difference", x.undo(), 0);
        DUE.is("and no more", x.undo(), Due.IMPOSSIBLE);
    }

    private static void callsThatAreNoChanges() {
        DUE.sentence(CHANGES);
        Supplier<BaroRuns> made = Made::level;
        changes("type", made, x -> x.type('b'), 1, 0);
        changes("clearText", made, x -> x.clearText(), 0, 0);
        changes("reading", made, x -> x.reading(-1, 0, 1), 100000, 0);
        changes("count", made, x -> x.count(0), 2, 0);
        changes("baseAt", made, x -> x.baseAt(7, 1), 100, 0);
        changes("would", made, x -> x.would(7, 99000, 100), 83394, 0);
        changes("pressureFor", made, x -> x.pressureFor(7, 100, 83394), 99000, 0);
        changes("loops", made, x -> x.loops(0), 0, 0);
        changes("point", made, x -> x.point(0, 2), 0, 0);
        changes("worst", made, x -> x.worst(0), Due.MISSING, 0);
        changes("fault", () -> Made.typed(Made.level(), "b"), x -> x.fault(0), 0, 0);
    }

    private static void undoIsNoChange() {
        DUE.sentence(CHANGES);
        BaroRuns x = Made.level();
        DUE.is("undo", x.undo(), 1);
        DUE.is("states", x.count(8), 1);
        DUE.is("undo again", x.undo(), 0);
        DUE.is("no undo of an undo", x.undo(), Due.IMPOSSIBLE);
        DUE.is("readings", x.count(0), 0);
    }

    // ---- the history

    private static final String HISTORY = "A history of at most 5 states is kept: each change records everything"
        + " before it but the text, and if there are 6 states then, the oldest one is dropped.";

    private static void noHistory() {
        DUE.sentence(HISTORY);
        BaroRuns x = new BaroRuns();
        DUE.is("states", x.count(8), 0);
        DUE.is("undo", x.undo(), Due.IMPOSSIBLE);
        x.set(3, 0);
        x.type('b');
        DUE.is("undo of no change", x.undo(), Due.IMPOSSIBLE);
        DUE.is("the text stays", x.count(9), 1);
    }

    /** Sets the height to 1, 2, 3 and so on, then undoes all that can be undone. */
    private static void settings(int changes, int kept) {
        BaroRuns x = new BaroRuns();
        for (int i = 1; i <= changes; i++) {
            x.set(0, i);
            DUE.is("states behind change " + i, x.count(8), Math.min(i, 5));
        }
        for (int left = kept - 1; left >= 0; left--) {
            DUE.is("undo", x.undo(), left);
            DUE.is("states", x.count(8), left);
            DUE.is("height when " + left + " are left", x.count(10), changes - kept + left);
        }
        DUE.is("undo of nothing", x.undo(), Due.IMPOSSIBLE);
        DUE.is("the oldest height stays", x.count(10), changes - kept);
    }

    private static void fiveStates() {
        DUE.sentence(HISTORY);
        settings(1, 1);
        settings(4, 4);
        settings(5, 5);
    }

    private static void sixthState() {
        DUE.sentence(HISTORY);
        settings(6, 5);
    }

    private static void manyStates() {
        DUE.sentence(HISTORY);
        for (int changes = 7; changes <= 17; changes++) {
            settings(changes, 5);
        }
        settings(100, 5);
    }

    /** Changes and undoes in turn, so that the history fills, drops and empties at all its places. */
    private static void upAndDown() {
        DUE.sentence(HISTORY);
        BaroRuns x = new BaroRuns();
        List<Integer> before = new ArrayList<>();
        int height = 0;
        int[] steps = {5, -2, 4, -5, -1, 3, -1, 6, -3, 3, -4, 2, 5, -6, 7, -5, 1, -1, 9, -4};
        for (int step : steps) {
            for (int i = 0; i < step; i++) {
                before.add(height);
                height += 7;
                x.set(0, height);
            }
            while (before.size() > 5) {
                before.remove(0);
            }
            for (int i = 0; i < -step; i++) {
                boolean some = !before.isEmpty();
                DUE.is("undo", x.undo(), some ? before.size() - 1 : Due.IMPOSSIBLE);
                height = some ? before.remove(before.size() - 1) : height;
            }
            DUE.is("height behind " + step, x.count(10), height);
            DUE.is("states behind " + step, x.count(8), before.size());
        }
    }

    /** All that can be seen of an object but its history: the number of the states, and these themselves. */
    private static String withoutHistory(BaroRuns x) {
        return Made.picture(x).replaceFirst("^((\\d+ ){8})\\d+ ", "$1").replaceFirst(" \\| before .*", "");
    }

    private static void undone(String name, ToIntFunction<BaroRuns> change) {
        BaroRuns x = Made.busy();
        DUE.is(name + " is no error", change.applyAsInt(x) >= 0 ? 1 : 0, 1);
        DUE.is("undo of " + name, x.undo(), 4);
        DUE.same("all behind the undo of " + name, withoutHistory(x), withoutHistory(Made.busy()));
    }

    private static void everythingIsRecorded() {
        DUE.sentence(HISTORY);
        for (int what = 0; what <= 2; what++) {
            int setting = what;
            undone("set " + what, x -> x.set(setting, 77));
        }
        undone("base", x -> x.base(250, 99000, -300));
        undone("base ahead", x -> x.base(1, 99000, -300));
        for (int cell = -1; cell <= 2; cell++) {
            int where = cell;
            undone("drop of the first of " + cell, x -> x.drop(where, 0));
            undone("drop of the second of " + cell, x -> x.drop(where, 1));
        }
        for (int cell = 0; cell <= 2; cell++) {
            int where = cell;
            undone("read of " + cell, x -> x.read(where, 9, 12, 50000, 500));
        }
    }

    private static void enteredAndUndone() {
        DUE.sentence(HISTORY);
        BaroRuns x = Made.level();
        Made.reads(x, 1, new int[] {0, 10}, new int[] {1, 2}, new int[] {99000, 98000});
        String before = Due.counts(x);
        Made.typed(x, "bt7p99000c0;c0@1t5p98000c0;c1@3t5p98000c0;c2@1t5p98000c0;");
        DUE.is("enter", x.enter(), 4);
        DUE.is("undo", x.undo(), 4);
        x.clearText();
        DUE.same("counts", Due.counts(x), before);
        DUE.is("second of cell 1", x.reading(1, 1, 3), 2);
        DUE.is("second of the base", x.reading(-1, 1, 0), 1000);
    }

    private static void textIsNotRecorded() {
        DUE.sentence(HISTORY);
        BaroRuns x = Made.typed(new BaroRuns(), "bt1");
        x.set(0, 5);
        Made.typed(x, "p99000c0;");
        DUE.is("undo", x.undo(), 0);
        DUE.is("the text stays as it is now", x.count(9), 12);
        DUE.is("enter", x.enter(), 1);
        x.clearText();
        DUE.is("undo of enter", x.undo(), 0);
        DUE.is("the text stays empty", x.count(9), 0);
        DUE.is("the base is empty", x.count(0), 0);
    }

    // ---- several errors

    private static final String SEVERAL = "If several errors apply to a call, INVALID_ARGUMENT is returned rather than"
        + " NOT_POSSIBLE, NOT_POSSIBLE rather than LIMIT_REACHED, and LIMIT_REACHED rather than NOT_FOUND.";

    private static void invalidRatherThanNotPossible() {
        DUE.sentence(SEVERAL);
        DUE.is("base, its time taken", Made.bases(3).base(10, 49999, 0), Due.INVALID);
        DUE.is("base, its time taken, too warm", Made.bases(3).base(10, 99000, 501), Due.INVALID);
        DUE.is("read, its time taken", Made.cells(1, 3).read(1, 10, 10, 99000, 0), Due.INVALID);
        DUE.is("read, its time taken, too cold", Made.cells(1, 3).read(1, 0, 10, 99000, -301), Due.INVALID);
    }

    private static void invalidRatherThanLimit() {
        DUE.sentence(SEVERAL);
        DUE.is("base full", Made.bases(12).base(10001, 99000, 0), Due.INVALID);
        DUE.is("cell full", Made.cells(0, 20).read(0, -1, 5, 99000, 0), Due.INVALID);
        DUE.is("cell full, time too large", Made.cells(0, 20).read(0, 0, 10001, 99000, 0), Due.INVALID);
        BaroRuns x = Made.typed(new BaroRuns(), "x".repeat(100));
        DUE.is("text full, too small", x.type(31), Due.INVALID);
        DUE.is("text full, too large", x.type(127), Due.INVALID);
        DUE.is("text full", x.type(126), Due.FULL);
    }

    private static void notPossibleRatherThanLimit() {
        DUE.sentence(SEVERAL);
        DUE.is("base full, time of the first", Made.bases(12).base(0, 99000, 0), Due.IMPOSSIBLE);
        DUE.is("base full, time of the last", Made.bases(12).base(110, 99000, 0), Due.IMPOSSIBLE);
        DUE.is("base full, time between", Made.bases(12).base(109, 99000, 0), Due.FULL);
        for (int cell = 0; cell <= 2; cell++) {
            DUE.is("cell full, time of the first", Made.cells(cell, 20).read(cell, 0, 0, 99000, 0), Due.IMPOSSIBLE);
            DUE.is("cell full, time of the last", Made.cells(cell, 20).read(cell, 0, 190, 99000, 0), Due.IMPOSSIBLE);
            DUE.is("cell full, time between", Made.cells(cell, 20).read(cell, 0, 189, 99000, 0), Due.FULL);
        }
    }

    private static void invalidRatherThanNotFound() {
        DUE.sentence(SEVERAL);
        BaroRuns x = Made.reads(new BaroRuns(), 0, new int[] {5}, new int[] {5}, new int[] {99000});
        DUE.is("reading of no base", x.reading(-1, 0, 3), Due.INVALID);
        DUE.is("reading of the base", Made.level().reading(-1, 2, 5), Due.INVALID);
        DUE.is("baseAt", x.baseAt(5, 2), Due.INVALID);
        DUE.is("raw", x.raw(0, 1), Due.INVALID);
        DUE.is("would", x.would(5, 49999, 0), Due.INVALID);
        DUE.is("pressureFor", x.pressureFor(5, 0, 10000001), Due.INVALID);
        DUE.is("openLoop", x.openLoop(0, 1), Due.INVALID);
        DUE.is("corrected", x.corrected(0, 1), Due.INVALID);
        DUE.is("point", x.point(5, 3), Due.INVALID);
        DUE.is("worst", x.worst(2), Due.INVALID);
        DUE.is("fault", x.fault(2), Due.INVALID);
    }

    // ---- refused calls

    private static final String NOTHING = "A call that returns an error changes nothing.";

    private static void refused(String call, Supplier<BaroRuns> made, ToIntFunction<BaroRuns> called, int error) {
        BaroRuns x = made.get();
        DUE.is(call, called.applyAsInt(x), error);
        DUE.same("all behind " + call, Made.picture(x), Made.picture(made.get()));
    }

    private static void refusedReadings() {
        DUE.sentence(NOTHING);
        refused("base at a time taken", Made::busy, x -> x.base(500, 99000, 0), Due.IMPOSSIBLE);
        refused("base out of range", Made::busy, x -> x.base(501, 99000, 501), Due.INVALID);
        refused("base when full", () -> Made.bases(12), x -> x.base(501, 99000, 0), Due.FULL);
        refused("read at a time taken", Made::busy, x -> x.read(0, 5, 10, 99000, 0), Due.IMPOSSIBLE);
        refused("read out of range", Made::busy, x -> x.read(0, 10, 11, 99000, 0), Due.INVALID);
        refused("read when full", () -> Made.cells(1, 20), x -> x.read(1, 5, 501, 99000, 0), Due.FULL);
        refused("drop of none", Made::busy, x -> x.drop(0, 5), Due.INVALID);
        refused("drop of no base", () -> Made.cells(1, 20), x -> x.drop(-1, 0), Due.INVALID);
        refused("set out of range", Made::busy, x -> x.set(1, 5001), Due.INVALID);
        refused("set of none", Made::busy, x -> x.set(3, 50), Due.INVALID);
        refused("undo of nothing", BaroRuns::new, x -> x.undo(), Due.IMPOSSIBLE);
    }

    private static void refusedTexts() {
        DUE.sentence(NOTHING);
        refused("type out of range", Made::busy, x -> x.type(127), Due.INVALID);
        refused("type when full", () -> Made.typed(Made.level(), "x".repeat(100)), x -> x.type('x'), Due.FULL);
        refused("enter, no form behind", Made::busy, x -> x.enter(), Due.IMPOSSIBLE);
        refused("enter, out of range behind", () -> Made.typed(Made.level(), "bt7p99000c0;c0@1t1p1c1;"),
            x -> x.enter(), Due.IMPOSSIBLE);
        refused("enter, a time taken behind", () -> Made.typed(Made.level(), "c0@1t1p99000c0;bt0p99000c0;"),
            x -> x.enter(), Due.IMPOSSIBLE);
        refused("enter, a time twice", () -> Made.typed(Made.level(), "c0@1t1p99000c0;c0@2t1p99000c0;"),
            x -> x.enter(), Due.IMPOSSIBLE);
        refused("enter, no room behind", () -> Made.typed(Made.bases(11), "bt991p99000c0;bt992p99000c0;"),
            x -> x.enter(), Due.IMPOSSIBLE);
        refused("fault of what", Made::busy, x -> x.fault(2), Due.INVALID);
        refused("fault of none", Made::level, x -> x.fault(0), Due.MISSING);
    }

    private static void refusedQuestions() {
        DUE.sentence(NOTHING);
        refused("reading of the base", Made::busy, x -> x.reading(-1, 0, 3), Due.MISSING);
        refused("count of what", Made::busy, x -> x.count(14), Due.INVALID);
        refused("baseAt behind it", Made::busy, x -> x.baseAt(1001, 0), Due.MISSING);
        refused("step of none", Made::busy, x -> x.step(2), Due.INVALID);
        refused("raw behind the base", Made::busy, x -> x.raw(0, 4), Due.MISSING);
        refused("would behind the base", Made::busy, x -> x.would(1001, 99000, 0), Due.MISSING);
        refused("pressureFor behind it", Made::busy, x -> x.pressureFor(1001, 0, 0), Due.MISSING);
        refused("pressureFor too high", Made::busy, x -> x.pressureFor(5, 0, 10000000), Due.MISSING);
        refused("loops of none", Made::busy, x -> x.loops(3), Due.INVALID);
        refused("loop of none", Made::busy, x -> x.loop(0, 2, 0), Due.INVALID);
        refused("openLoop of a gust", Made::busy, x -> x.openLoop(1, 1), Due.MISSING);
        refused("corrected of a gust", Made::busy, x -> x.corrected(1, 1), Due.MISSING);
        refused("point without a height", Made::busy, x -> x.point(9, 0), Due.MISSING);
        refused("worst of none", Made::level, x -> x.worst(0), Due.MISSING);
    }

    // ---- numbers that are not there

    private static final String NUMBER = "If there is no reading, loop or weather step with a certain number,"
        + " this is INVALID_ARGUMENT.";

    private static void noSuchReading() {
        DUE.sentence(NUMBER);
        for (int cell = -1; cell <= 2; cell++) {
            int size = Made.busy().count(cell + 1);
            for (int reading : new int[] {-1, size, Integer.MIN_VALUE, Integer.MAX_VALUE}) {
                DUE.is("drop", Made.busy().drop(cell, reading), Due.INVALID);
                DUE.is("reading", Made.busy().reading(cell, reading, 0), Due.INVALID);
                DUE.is("raw", Made.busy().raw(cell, reading), Due.INVALID);
                DUE.is("openLoop", Made.busy().openLoop(cell, reading), Due.INVALID);
                DUE.is("corrected", Made.busy().corrected(cell, reading), Due.INVALID);
            }
            DUE.is("the last one", Made.busy().drop(cell, size - 1), size - 1);
            DUE.is("the first of none", new BaroRuns().drop(cell, 0), Due.INVALID);
            DUE.is("time of the first of none", new BaroRuns().reading(cell, 0, 0), Due.INVALID);
        }
    }

    private static void noSuchLoop() {
        DUE.sentence(NUMBER);
        int[] loops = {2, 1, 1};
        for (int cell = 0; cell <= 2; cell++) {
            for (int loop : new int[] {-1, loops[cell], Integer.MIN_VALUE, Integer.MAX_VALUE}) {
                DUE.is("loop " + loop + " of " + cell, Made.busy().loop(cell, loop, 4), Due.INVALID);
            }
            DUE.is("loops", Made.busy().loops(cell), loops[cell]);
            DUE.is("the last loop", Made.busy().loop(cell, loops[cell] - 1, 4), cell == 2 ? 10 : 20);
            DUE.is("the first of none", new BaroRuns().loop(cell, 0, 0), Due.INVALID);
        }
    }

    private static void noSuchStep() {
        DUE.sentence(NUMBER);
        for (int step : new int[] {-1, 2, Integer.MIN_VALUE, Integer.MAX_VALUE}) {
            DUE.is("step " + step, Made.busy().step(step), Due.INVALID);
        }
        DUE.is("the last step", Made.busy().step(1), 2);
        DUE.is("the first of none", new BaroRuns().step(0), Due.INVALID);
    }

    private static void baseAsCell() {
        DUE.sentence("The base is told as the cell -1 where this is said.");
        BaroRuns x = Made.busy();
        DUE.is("reading", x.reading(-1, 2, 1), 100000);
        DUE.is("read", x.read(-1, 0, 7, 99000, 0), Due.INVALID);
        DUE.is("raw", x.raw(-1, 0), Due.INVALID);
        DUE.is("loops", x.loops(-1), Due.INVALID);
        DUE.is("loop", x.loop(-1, 0, 0), Due.INVALID);
        DUE.is("openLoop", x.openLoop(-1, 0), Due.INVALID);
        DUE.is("corrected", x.corrected(-1, 0), Due.INVALID);
        DUE.is("drop", x.drop(-1, 2), 2);
        DUE.is("readings of the base", x.count(0), 2);
        DUE.is("readings of cell 0", x.count(1), 5);
    }

    private static void constants() {
        DUE.sentence("INVALID_ARGUMENT = -2000000001 .. NOT_FOUND = -2000000004");
        int[] all = {BaroRuns.INVALID_ARGUMENT, BaroRuns.NOT_POSSIBLE, BaroRuns.LIMIT_REACHED, BaroRuns.NOT_FOUND};
        DUE.row("the constants", all, -2000000001, -2000000002, -2000000003, -2000000004);
    }

    private static void history() {
        noHistory();
        fiveStates();
        sixthState();
        manyStates();
        upAndDown();
        everythingIsRecorded();
        enteredAndUndone();
        textIsNotRecorded();
    }

    private static void errors() {
        invalidRatherThanNotPossible();
        invalidRatherThanLimit();
        notPossibleRatherThanLimit();
        invalidRatherThanNotFound();
        refusedReadings();
        refusedTexts();
        refusedQuestions();
        noSuchReading();
        noSuchLoop();
        noSuchStep();
        baseAsCell();
        constants();
    }

    public static void main(String[] args) {
        fiveKindsOfChanges();
        changesThatChangeNothing();
        callsThatAreNoChanges();
        undoIsNoChange();
        history();
        errors();
        DUE.end();
    }
}
