import java.util.Arrays;
import java.util.function.Supplier;

/** Promises 1 to 23: the arguments of each call at the edges of their ranges, and what each call returns there. */
public final class CallsEdgesTest {
    private static final Due DUE = new Due();

    private interface Call {
        int on(BaroRuns x, int[] arguments);
    }

    /** Least and greatest of each argument in turn, in the state that the objects are in. */
    private static int[] ranges(int... ranges) {
        return ranges;
    }

    private static int[] with(int[] arguments, int index, int value) {
        int[] all = arguments.clone();
        all[index] = value;
        return all;
    }

    /**
     * Each argument too small and too large is refused, with the others as they are given, and nothing
     * becomes different; each argument at the ends of its range is in range.
     */
    private static void call(String name, Supplier<BaroRuns> made, Call call, int[] ranges, int... arguments) {
        DUE.sentence(name + " .. INVALID_ARGUMENT if an argument is out of range");
        for (int i = 0; i < arguments.length; i++) {
            int least = ranges[2 * i];
            int greatest = ranges[2 * i + 1];
            BaroRuns x = made.get();
            for (int value : new int[] {least - 1, greatest + 1, Integer.MIN_VALUE, Integer.MAX_VALUE}) {
                int[] wrong = with(arguments, i, value);
                DUE.is(name + Arrays.toString(wrong), call.on(x, wrong), Due.INVALID);
            }
            DUE.same("all behind " + name + ", argument " + i, Made.picture(x), Made.picture(made.get()));
            for (int value : new int[] {least, greatest}) {
                int[] right = with(arguments, i, value);
                int answer = call.on(made.get(), right);
                DUE.is(name + Arrays.toString(right) + " is in range", answer == Due.INVALID ? 1 : 0, 0);
            }
        }
    }

    private static void changingCalls(Supplier<BaroRuns> made) {
        call("set", made, (x, a) -> x.set(a[0], a[1]), ranges(0, 2, -500000, 9000000), 0, 50);
        call("set", made, (x, a) -> x.set(a[0], a[1]), ranges(0, 2, 1, 5000), 1, 50);
        call("set", made, (x, a) -> x.set(a[0], a[1]), ranges(0, 2, 1, 500), 2, 50);
        call("base", made, (x, a) -> x.base(a[0], a[1], a[2]),
            ranges(0, 10000, 50000, 110000, -300, 500), 700, 99000, 50);
        for (int cell = 0; cell <= 2; cell++) {
            call("read", made, (x, a) -> x.read(a[0], a[1], a[2], a[3], a[4]),
                ranges(0, 2, 0, 9, 0, 10000, 50000, 110000, -300, 500), cell, 5, 700, 99000, 50);
        }
        call("type", made, (x, a) -> x.type(a[0]), ranges(32, 126), 'c');
    }

    private static void questions(Supplier<BaroRuns> made) {
        call("count", made, (x, a) -> x.count(a[0]), ranges(0, 13), 7);
        call("baseAt", made, (x, a) -> x.baseAt(a[0], a[1]), ranges(0, 10000, 0, 1), 250, 0);
        call("would", made, (x, a) -> x.would(a[0], a[1], a[2]),
            ranges(0, 10000, 50000, 110000, -300, 500), 250, 99000, 50);
        call("pressureFor", made, (x, a) -> x.pressureFor(a[0], a[1], a[2]),
            ranges(0, 10000, -300, 500, -1000000, 10000000), 250, 50, 1000);
        call("loops", made, (x, a) -> x.loops(a[0]), ranges(0, 2), 1);
        for (int what = 0; what <= 2; what++) {
            call("point", made, (x, a) -> x.point(a[0], a[1]), ranges(0, 9, 0, 2), 4, what);
        }
        call("worst", made, (x, a) -> x.worst(a[0]), ranges(0, 1), 0);
        call("fault", made, (x, a) -> x.fault(a[0]), ranges(0, 1), 0);
    }

    private static void anyState() {
        for (Supplier<BaroRuns> made : Arrays.<Supplier<BaroRuns>>asList(BaroRuns::new, Made::busy, Made::level,
                () -> Made.bases(12), () -> Made.cells(0, 20), () -> Made.typed(new BaroRuns(), "b".repeat(100)))) {
            changingCalls(made);
            questions(made);
        }
    }

    /** What asks for a reading, a loop or a step: the range of its number is that of those that are there. */
    private static void numbers() {
        Supplier<BaroRuns> made = Made::busy;
        int[] sizes = {3, 5, 4, 2};
        int[] loops = {2, 1, 1};
        for (int cell = -1; cell <= 2; cell++) {
            int last = sizes[cell + 1] - 1;
            // The first reading of each is there, so that only the cell can be out of range beside it.
            call("drop", made, (x, a) -> x.drop(a[0], a[1]), ranges(-1, 2, 0, last), cell, 0);
            call("reading", made, (x, a) -> x.reading(a[0], a[1], a[2]), ranges(-1, 2, 0, last, 0, 5), cell, 0, 1);
        }
        for (int cell = 0; cell <= 2; cell++) {
            int last = sizes[cell + 1] - 1;
            call("raw", made, (x, a) -> x.raw(a[0], a[1]), ranges(0, 2, 0, last), cell, 0);
            call("openLoop", made, (x, a) -> x.openLoop(a[0], a[1]), ranges(0, 2, 0, last), cell, 0);
            call("corrected", made, (x, a) -> x.corrected(a[0], a[1]), ranges(0, 2, 0, last), cell, 0);
            call("loop", made, (x, a) -> x.loop(a[0], a[1], a[2]),
                ranges(0, 2, 0, loops[cell] - 1, 0, 4), cell, 0, 0);
        }
        call("step", made, (x, a) -> x.step(a[0]), ranges(0, 1), 0);
    }

    // ---- what the calls return at their edges

    private static void newObject() {
        DUE.sentence("Creates runs without readings.");
        Supplier<BaroRuns> made = BaroRuns::new;
        DUE.same("counts", Due.counts(made.get()), "0 0 0 0 0 0 0 0 0 0 0 60 50 0");
        for (int cell = -1; cell <= 2; cell++) {
            DUE.is("reading of " + cell, made.get().reading(cell, 0, 0), Due.INVALID);
            DUE.is("drop of " + cell, made.get().drop(cell, 0), Due.INVALID);
        }
        for (int cell = 0; cell <= 2; cell++) {
            DUE.is("loops of " + cell, made.get().loops(cell), 0);
        }
        DUE.is("step", made.get().step(0), Due.INVALID);
        DUE.is("worst", made.get().worst(0), Due.MISSING);
        DUE.is("undo", made.get().undo(), Due.IMPOSSIBLE);
        DUE.is("fault", made.get().fault(1), Due.MISSING);
    }

    private static void previousValue() {
        DUE.sentence("Returns the previous value");
        BaroRuns x = new BaroRuns();
        int[] answers = {x.set(0, 9000000), x.set(0, -500000), x.set(0, -500000), x.set(1, 5000), x.set(1, 1),
            x.set(2, 500), x.set(2, 1), x.set(0, 0), x.set(1, 60), x.set(2, 50)};
        DUE.row("set", answers, 0, 9000000, -500000, 60, 5000, 50, 500, -500000, 1, 1);
    }

    private static void laterNumbersDecrease() {
        DUE.sentence("Drops a reading; the numbers of the later ones decrease by 1. .. Returns how many remain there");
        for (int cell = -1; cell <= 2; cell++) {
            int where = cell;
            Supplier<BaroRuns> made = () -> where == -1 ? Made.bases(12) : Made.cells(where, 20);
            int size = made.get().count(cell + 1);
            for (int dropped : new int[] {0, 1, size - 2, size - 1}) {
                BaroRuns x = made.get();
                DUE.is("drop of " + dropped, x.drop(cell, dropped), size - 1);
                for (int i = 0; i < size - 1; i++) {
                    DUE.is("time of " + i, x.reading(cell, i, 0), 10 * (i < dropped ? i : i + 1));
                    DUE.is("temperature of " + i, x.reading(cell, i, 2), i < dropped ? i : i + 1);
                }
                DUE.is("no last one", x.reading(cell, size - 1, 0), Due.INVALID);
            }
        }
    }

    private static void droppedToNone() {
        DUE.sentence("Returns how many readings remain there");
        for (int cell = -1; cell <= 2; cell++) {
            BaroRuns x = cell == -1 ? Made.bases(12) : Made.cells(cell, 20);
            for (int left = x.count(cell + 1) - 1; left >= 0; left--) {
                DUE.is("drop of the first", x.drop(cell, 0), left);
            }
            DUE.is("drop of none", x.drop(cell, 0), Due.INVALID);
            DUE.is("none", x.count(cell + 1), 0);
            DUE.is("the next one is the first", cell == -1 ? x.base(10, 99000, 0) : x.read(cell, 0, 10, 99000, 0), 0);
        }
    }

    private static void partsOfTheBase() {
        DUE.sentence("NOT_FOUND for 3 to 5 for the base");
        BaroRuns x = Made.bases(12);
        for (int reading : new int[] {0, 11}) {
            int[] parts = new int[8];
            for (int what = -1; what <= 6; what++) {
                parts[what + 1] = x.reading(-1, reading, what);
            }
            DUE.row("parts of " + reading, parts, Due.INVALID, 10 * reading, 100000 + reading, reading,
                Due.MISSING, Due.MISSING, Due.MISSING, Due.INVALID);
        }
    }

    private static void allCounts() {
        DUE.sentence("Returns a number.");
        DUE.same("a bit of everything", Due.counts(Made.busy()), "3 5 4 2 1 4 2 5 5 13 1234 500 40 9");
        DUE.same("full base", Due.counts(Made.bases(12)), "12 0 0 0 0 0 0 0 5 0 0 60 50 0");
        for (int cell = 0; cell <= 2; cell++) {
            BaroRuns x = Made.cells(cell, 20);
            for (int other = 0; other <= 2; other++) {
                DUE.is("full cell " + cell + ", cell " + other, x.count(1 + other), other == cell ? 20 : 0);
            }
        }
        DUE.is("full text", Made.typed(new BaroRuns(), "b".repeat(101)).count(9), 100);
    }

    private static void statesLeft() {
        DUE.sentence("Returns the number of states that are left in the history; NOT_POSSIBLE if it is empty.");
        BaroRuns x = Made.bases(3);
        DUE.row("undo", new int[] {x.undo(), x.undo(), x.undo(), x.undo(), x.undo()},
            2, 1, 0, Due.IMPOSSIBLE, Due.IMPOSSIBLE);
        x.base(0, 99000, 0);
        DUE.row("undo again", new int[] {x.undo(), x.undo()}, 0, Due.IMPOSSIBLE);
    }

    private static final String GREATEST = "Returns the greatest pressure with which a reading would have"
        + " at least a raw height.";

    private static void pressures(int baseHeight, int[] heights, int... due) {
        BaroRuns x = Made.level();
        x.set(0, baseHeight);
        int[] answers = new int[heights.length];
        for (int i = 0; i < heights.length; i++) {
            answers[i] = x.pressureFor(500, 100, heights[i]);
        }
        DUE.row("pressureFor " + Arrays.toString(heights) + " from " + baseHeight, answers, due);
    }

    private static void greatestPressure() {
        DUE.sentence(GREATEST);
        pressures(0, new int[] {83394, 83395, 83311, 83312}, 99000, 98999, 99001, 99000);
        pressures(0, new int[] {1, 0, -1, -82, -83, -84}, 99999, 100000, 100000, 100000, 100001, 100001);
    }

    private static void pressureOfTheRange() {
        DUE.sentence("Returns the pressure, 50000 to 110000; .. NOT_FOUND if there is none");
        pressures(0, new int[] {-1000000, -790263, -790262}, 110000, 110000, 109999);
        pressures(0, new int[] {5531840, 5531841, 10000000}, 50000, Due.MISSING, Due.MISSING);
        pressures(9000000, new int[] {-1000000, 8209737, 8209738}, 110000, 110000, 109999);
        pressures(-500000, new int[] {-1000000, 5031840, 5031841}, 106212, 50000, Due.MISSING);
        pressures(4468160, new int[] {10000000}, 50000);
        pressures(4468159, new int[] {10000000}, Due.MISSING);
    }

    private static final String WORST = "Returns the worst loop: that with the greatest size of its misclosure,"
        + " of several that of the lowest cell, then the lowest one.";

    /** Cell and number of the worst loop, when each cell reads point 1 with these pressures. */
    private static int[] worst(int[]... pressures) {
        BaroRuns x = Made.quiet();
        for (int cell = 0; cell < pressures.length; cell++) {
            int[] times = new int[pressures[cell].length];
            int[] points = new int[times.length];
            Arrays.setAll(times, i -> 10 * i);
            Arrays.fill(points, 1);
            Made.reads(x, cell, times, points, pressures[cell]);
        }
        return new int[] {x.worst(0), x.worst(1)};
    }

    private static void worstOfNone() {
        DUE.sentence("NOT_FOUND if there are no loops");
        DUE.row("no readings", worst(), Due.MISSING, Due.MISSING);
        DUE.row("one reading each", worst(new int[] {99000}, new int[] {99000}, new int[] {99000}),
            Due.MISSING, Due.MISSING);
    }

    private static void worstOfOne() {
        DUE.sentence(WORST);
        int[] none = {};
        int[] closed = {99000, 99000};
        DUE.row("closed, cell 0", worst(closed), 0, 0);
        DUE.row("closed, cell 1", worst(none, closed), 1, 0);
        DUE.row("closed, cell 2", worst(none, none, closed), 2, 0);
    }

    private static void worstOfSeveral() {
        DUE.sentence(WORST);
        DUE.row("of the same size, the lowest cell", worst(new int[] {99000, 98000}, new int[] {99000, 98000}), 0, 0);
        DUE.row("of the same size, the lowest loop", worst(new int[] {98000, 99000, 98000, 99000}), 0, 0);
        DUE.row("of the same size, fallen in the lower cell",
            worst(new int[] {98000, 99000}, new int[] {99000, 98000}), 0, 0);
        DUE.row("all closed", worst(new int[] {99000, 99000, 99000}, new int[] {99000, 99000}), 0, 0);
        DUE.row("the lowest cell, not the lowest loop",
            worst(new int[] {99000, 99000, 98000}, new int[] {99000, 98000}), 0, 1);
        DUE.row("the greatest, fallen", worst(new int[] {99000, 98000}, new int[] {98000, 98000, 99001}), 1, 1);
        DUE.row("the greatest, in the last cell",
            worst(new int[] {99000, 98000}, new int[] {98000, 99000}, new int[] {99001, 99001, 98000}), 2, 1);
    }

    private static void typedLength() {
        DUE.sentence("Returns the length of the text; .. LIMIT_REACHED if it has 100 characters.");
        BaroRuns x = new BaroRuns();
        DUE.row("the least and the greatest character", new int[] {x.type(32), x.type(126)}, 1, 2);
        Made.typed(x, "b".repeat(97));
        DUE.row("the last ones", new int[] {x.type(126), x.type(126), x.type(32)}, 100, Due.FULL, Due.FULL);
    }

    private static void previousLength() {
        DUE.sentence("Returns the length it had.");
        BaroRuns x = Made.typed(new BaroRuns(), "b".repeat(100));
        DUE.row("clearText", new int[] {x.clearText(), x.clearText(), x.type(32), x.clearText()}, 100, 0, 1, 1);
    }

    private static void textStays() {
        DUE.sentence("Takes all readings of the text, which stays. Returns how many there are in it");
        BaroRuns x = Made.typed(new BaroRuns(), "bt7p99000c7;c2@9t8p98000c-8;");
        DUE.is("enter", x.enter(), 2);
        DUE.is("length", x.count(9), 28);
        DUE.is("enter again", x.enter(), Due.IMPOSSIBLE);
        DUE.is("states", x.count(8), 1);
        x.undo();
        DUE.is("enter behind an undo", x.enter(), 2);
        int[] taken = {x.reading(-1, 0, 0), x.reading(-1, 0, 1), x.reading(-1, 0, 2),
            x.reading(2, 0, 0), x.reading(2, 0, 1), x.reading(2, 0, 2), x.reading(2, 0, 3)};
        DUE.row("the readings", taken, 7, 99000, 7, 8, 98000, -8, 9);
    }

    private static void worstLoops() {
        worstOfNone();
        worstOfOne();
        worstOfSeveral();
    }

    private static void returns() {
        newObject();
        previousValue();
        laterNumbersDecrease();
        droppedToNone();
        partsOfTheBase();
        allCounts();
        statesLeft();
        greatestPressure();
        pressureOfTheRange();
        worstLoops();
        typedLength();
        previousLength();
        textStays();
    }

    public static void main(String[] args) {
        anyState();
        numbers();
        returns();
        DUE.end();
    }
}
