/** Terms, base, raw heights and gusts: each sentence that names a boundary, with a test of its own. */
public final class HeightsEdgesTest {
    private static final Due DUE = new Due();
    private static final String DOWN = "divisions are rounded down (toward negative infinity)";

    private static int[] baseRow(BaroRuns x, int what, int... times) {
        int[] answers = new int[times.length];
        for (int i = 0; i < times.length; i++) {
            answers[i] = x.baseAt(times[i], what);
        }
        return answers;
    }

    private static BaroRuns base(int... numbers) {
        BaroRuns x = new BaroRuns();
        for (int i = 0; i + 2 < numbers.length; i += 3) {
            x.base(numbers[i], numbers[i + 1], numbers[i + 2]);
        }
        return x;
    }

    // ---- divisions

    private static void fallingPressureRoundedDown() {
        DUE.sentence(DOWN);
        DUE.row("falling by 1 in 3", baseRow(base(0, 100000, 0, 3, 99999, 0), 0, 0, 1, 2, 3),
            100000, 99999, 99999, 99999);
    }

    private static void risingPressureRoundedDown() {
        DUE.sentence(DOWN);
        DUE.row("rising by 1 in 3", baseRow(base(0, 99999, 0, 3, 100000, 0), 0, 0, 1, 2, 3),
            99999, 99999, 99999, 100000);
    }

    private static void temperatureBelowZeroRoundedDown() {
        DUE.sentence(DOWN);
        DUE.row("from 1 to -1", baseRow(base(0, 100000, 1, 4, 100000, -1), 1, 0, 1, 2, 3, 4), 1, 0, 0, -1, -1);
        DUE.row("from -2 to -1", baseRow(base(0, 100000, -2, 3, 100000, -1), 1, 0, 1, 2, 3), -2, -2, -2, -1);
    }

    private static void halfOfTemperaturesRoundedDown() {
        DUE.sentence(DOWN);
        DUE.is("half of 1", base(0, 100000, 1).would(0, 99000, 0), base(0, 100000, 0).would(0, 99000, 0));
        DUE.is("half of -1", base(0, 100000, -1).would(0, 99000, 0), base(0, 100000, -2).would(0, 99000, 0));
        DUE.is("half of -101", base(0, 100000, 0).would(0, 99000, -101), 78948);
    }

    private static void halfOfPressuresRoundedDown() {
        DUE.sentence(DOWN);
        DUE.is("half of 199001", base(0, 100001, 0).would(0, 99000, 0), 80530);
        DUE.is("half of 199002", base(0, 100002, 0).would(0, 99000, 0), 80609);
    }

    private static void heightBelowTheBaseRoundedDown() {
        DUE.sentence(DOWN);
        DUE.is("a bit above", base(0, 100000, 100).would(0, 99999, 100), 82);
        DUE.is("a bit below", base(0, 100000, 100).would(0, 100001, 100), -83);
        DUE.is("far below", base(0, 100000, 100).would(0, 101000, 100), -82565);
    }

    private static void heightOfTheBaseAddedBehindDivision() {
        DUE.sentence(DOWN);
        BaroRuns x = base(0, 100000, 100);
        x.set(0, -7);
        DUE.is("a bit above a low base", x.would(0, 99999, 100), 75);
        x.set(0, 90);
        DUE.is("a bit below a high base", x.would(0, 100001, 100), 7);
    }

    // ---- the base at a time

    private static final String AT = "The pressure of the base at a time t is that of its reading at this time, or,"
        + " between two readings next to each other at t1 and t2 ..";

    private static void atReadings() {
        DUE.sentence(AT);
        BaroRuns x = base(0, 50000, -300, 4999, 110000, 500, 5000, 70001, 3, 10000, 60000, -7);
        DUE.row("pressures at the readings", baseRow(x, 0, 0, 4999, 5000, 10000), 50000, 110000, 70001, 60000);
        DUE.row("temperatures at the readings", baseRow(x, 1, 0, 4999, 5000, 10000), -300, 500, 3, -7);
    }

    private static void besideReadings() {
        DUE.sentence(AT);
        BaroRuns x = base(0, 50000, -300, 100, 60000, 100, 200, 50000, -300);
        DUE.row("pressures", baseRow(x, 0, 1, 99, 101, 199), 50100, 59900, 59900, 50100);
        DUE.row("temperatures", baseRow(x, 1, 1, 99, 101, 199), -296, 96, 96, -296);
    }

    private static void widestBase() {
        DUE.sentence(AT);
        BaroRuns rising = base(0, 50000, -300, 10000, 110000, 500);
        DUE.row("pressures", baseRow(rising, 0, 1, 5000, 9999), 50006, 80000, 109994);
        DUE.row("temperatures", baseRow(rising, 1, 1, 5000, 9999), -300, 100, 499);
        BaroRuns falling = base(0, 110000, 500, 10000, 50000, -300);
        DUE.row("falling pressures", baseRow(falling, 0, 1, 5000, 9999), 109994, 80000, 50006);
        DUE.row("falling temperatures", baseRow(falling, 1, 1, 5000, 9999), 499, 100, -300);
    }

    private static void nextToEachOther() {
        DUE.sentence(AT);
        BaroRuns x = base(0, 100000, 0, 100, 100000, 0);
        DUE.row("before", baseRow(x, 0, 40, 60), 100000, 100000);
        x.base(50, 110000, 100);
        DUE.row("a reading between", baseRow(x, 0, 40, 60), 108000, 108000);
        x.drop(-1, 1);
        DUE.row("dropped", baseRow(x, 0, 40, 60), 100000, 100000);
    }

    private static final String NONE = "Before the first and behind the last reading it has none.";

    private static void noBase() {
        DUE.sentence(NONE);
        for (int what = 0; what <= 1; what++) {
            DUE.row("no base", baseRow(new BaroRuns(), what, 0, 5000, 10000),
                Due.MISSING, Due.MISSING, Due.MISSING);
        }
    }

    private static void oneBaseReading() {
        DUE.sentence(NONE);
        BaroRuns x = base(70, 99999, -5);
        DUE.row("pressures", baseRow(x, 0, 0, 69, 70, 71, 10000),
            Due.MISSING, Due.MISSING, 99999, Due.MISSING, Due.MISSING);
        DUE.row("temperatures", baseRow(x, 1, 69, 70, 71), Due.MISSING, -5, Due.MISSING);
    }

    private static void beforeAndBehind() {
        DUE.sentence(NONE);
        BaroRuns x = base(70, 90000, 10, 80, 91000, 20);
        DUE.row("pressures", baseRow(x, 0, 69, 70, 80, 81), Due.MISSING, 90000, 91000, Due.MISSING);
        x.base(69, 92000, 0);
        x.base(81, 93000, 0);
        DUE.row("wider", baseRow(x, 0, 68, 69, 81, 82), Due.MISSING, 92000, 93000, Due.MISSING);
        x.drop(-1, 0);
        x.drop(-1, 2);
        DUE.row("dropped", baseRow(x, 0, 69, 70, 80, 81), Due.MISSING, 90000, 91000, Due.MISSING);
    }

    private static void fullBase() {
        DUE.sentence(NONE);
        BaroRuns x = Made.bases(12);
        DUE.row("of twelve", baseRow(x, 0, 0, 109, 110, 111), 100000, 100010, 100011, Due.MISSING);
    }

    // ---- weather steps

    private static final String STEP = "A weather step is a pair of base readings next to each other"
        + " whose temperatures differ by at least the step limit.";

    private static int[] steps(BaroRuns x) {
        int[] ends = new int[x.count(6)];
        for (int i = 0; i < ends.length; i++) {
            ends[i] = x.step(i);
        }
        DUE.is("no step behind the last", x.step(ends.length), Due.INVALID);
        DUE.is("no step before the first", x.step(-1), Due.INVALID);
        return ends;
    }

    private static void noPair() {
        DUE.sentence(STEP);
        DUE.row("no base", steps(new BaroRuns()));
        DUE.row("one reading", steps(base(0, 100000, 500)));
    }

    private static void justTheLimit() {
        DUE.sentence(STEP);
        DUE.row("rising by the limit", steps(base(0, 100000, -20, 1, 100000, 30)), 1);
        DUE.row("rising by one less", steps(base(0, 100000, -20, 1, 100000, 29)));
        DUE.row("falling by the limit", steps(base(0, 100000, 30, 1, 100000, -20)), 1);
        DUE.row("falling by one less", steps(base(0, 100000, 29, 1, 100000, -20)));
    }

    private static void justNextToEachOther() {
        DUE.sentence(STEP);
        BaroRuns x = base(0, 100000, 0, 1, 100000, 30, 2, 100000, 60);
        DUE.row("two small ones", steps(x));
        x.drop(-1, 1);
        DUE.row("one large one", steps(x), 1);
    }

    private static void allSteps() {
        DUE.sentence(STEP);
        BaroRuns x = new BaroRuns();
        for (int i = 0; i < 12; i++) {
            x.base(i, 100000, i % 2 == 0 ? -300 : 500);
        }
        DUE.row("each is a step", steps(x), 1, 2, 3, 4, 5, 6, 7, 8, 9, 10, 11);
    }

    // ---- raw heights

    private static final String WRAP = "without regard to the range of an int";

    private static int wouldOf(int height, int b, int a, int p, int c) {
        BaroRuns x = base(0, b, a);
        x.set(0, height);
        x.read(1, 1, 0, p, c);
        DUE.is("raw as would", x.raw(1, 0), x.would(0, p, c));
        return x.would(0, p, c);
    }

    private static void beyondAnIntAbove() {
        DUE.sentence(WRAP);
        DUE.is("greatest product", wouldOf(9000000, 110000, 500, 50000, 500), 16102320);
        DUE.is("just beyond", wouldOf(0, 100000, 100, 99741, 100), 21519);
        DUE.is("just within", wouldOf(0, 100000, 100, 99742, 100), 21435);
    }

    private static void beyondAnIntBelow() {
        DUE.sentence(WRAP);
        DUE.is("least product", wouldOf(-500000, 50000, 500, 110000, 500), -7602320);
        DUE.is("just beyond", wouldOf(0, 100000, 100, 100259, 100), -21464);
        DUE.is("just within", wouldOf(0, 100000, 100, 100258, 100), -21381);
    }

    private static void pressureOfTheBase() {
        DUE.sentence("(b - p) / ((b + p) / 2)");
        DUE.is("same pressure", wouldOf(-3, 100000, 100, 100000, 500), -3);
        DUE.is("one more", wouldOf(0, 50000, -300, 50001, -300), -143);
        DUE.is("one less", wouldOf(0, 50001, -300, 50000, -300), 142);
    }

    private static void asTheyAreNow() {
        DUE.sentence("by the readings and settings as they are now");
        BaroRuns x = base(0, 100000, 100, 100, 100000, 100);
        x.read(0, 1, 50, 99000, 100);
        DUE.is("at first", x.raw(0, 0), 83394);
        x.set(0, 1);
        DUE.is("the base set higher", x.raw(0, 0), 83395);
        x.base(50, 99000, 100);
        DUE.is("the base read anew", x.raw(0, 0), 1);
        x.drop(-1, 1);
        DUE.is("this dropped", x.raw(0, 0), 83395);
        x.undo();
        DUE.is("this undone", x.raw(0, 0), 1);
        Made.typed(x, "bt51p100000c100;").enter();
        x.drop(-1, 1);
        DUE.is("a text entered", x.raw(0, 0), 83395);
        x.drop(-1, 1);
        x.drop(-1, 1);
        DUE.is("without a base", x.raw(0, 0), Due.MISSING);
    }

    private static int[] rawRow(BaroRuns x, int cell) {
        int[] heights = new int[x.count(cell + 1)];
        for (int i = 0; i < heights.length; i++) {
            heights[i] = x.raw(cell, i);
        }
        return heights;
    }

    private static void noPressureAtItsTime() {
        DUE.sentence("It has none if the base has no pressure at its time.");
        int[] times = {9, 10, 20, 21};
        int[] same = {99000, 99000, 99000, 99000};
        for (int cell = 0; cell <= 2; cell++) {
            BaroRuns x = base(10, 100000, 100, 20, 100000, 100);
            Made.reads(x, cell, times, new int[4], same);
            DUE.row("around the base", rawRow(x, cell), Due.MISSING, 83394, 83394, Due.MISSING);
            DUE.row("would", new int[] {x.would(9, 99000, 100), x.would(10, 99000, 100), x.would(20, 99000, 100),
                x.would(21, 99000, 100)}, Due.MISSING, 83394, 83394, Due.MISSING);
            DUE.row("pressureFor", new int[] {x.pressureFor(9, 100, 83394), x.pressureFor(10, 100, 83394),
                x.pressureFor(20, 100, 83394), x.pressureFor(21, 100, 83394)},
                Due.MISSING, 99000, 99000, Due.MISSING);
            x.drop(-1, 1);
            DUE.row("one base reading", rawRow(x, cell), Due.MISSING, 83394, Due.MISSING, Due.MISSING);
        }
        DUE.row("no base", rawRow(Made.reads(new BaroRuns(), 0, times, new int[4], same), 0),
            Due.MISSING, Due.MISSING, Due.MISSING, Due.MISSING);
    }

    // ---- gusts

    private static final String GUST = "A reading of a cell is a gust, if the next readings before it and behind it"
        + " in the order of the cell are there, whatever these are, and its pressure differs from both"
        + " by more than the gust limit, being above both or below both (whether it has a raw height or not).";

    private static int[] gustRow(BaroRuns x, int cell) {
        int[] gusts = new int[x.count(cell + 1)];
        int sum = 0;
        for (int i = 0; i < gusts.length; i++) {
            gusts[i] = x.reading(cell, i, 4);
            sum += gusts[i];
        }
        DUE.is("gusts as counted", x.count(4), sum);
        return gusts;
    }

    private static BaroRuns row(BaroRuns x, int cell, int... pressures) {
        for (int i = 0; i < pressures.length; i++) {
            x.read(cell, i % 10, 10 * i, pressures[i], 0);
        }
        return x;
    }

    private static void noNeighbours() {
        DUE.sentence(GUST);
        for (int cell = 0; cell <= 2; cell++) {
            DUE.row("no reading", gustRow(new BaroRuns(), cell));
            DUE.row("one reading", gustRow(row(new BaroRuns(), cell, 50000), cell), 0);
            DUE.row("two readings", gustRow(row(new BaroRuns(), cell, 50000, 110000), cell), 0, 0);
            DUE.row("three readings", gustRow(row(new BaroRuns(), cell, 50000, 110000, 50000), cell), 0, 1, 0);
        }
    }

    private static void firstAndLast() {
        DUE.sentence(GUST);
        BaroRuns x = row(new BaroRuns(), 1, 110000, 90000, 90000, 50000);
        DUE.row("first and last stand out", gustRow(x, 1), 0, 0, 0, 0);
        x.read(1, 0, 9999, 90000, 0);
        DUE.row("the last has one behind it now", gustRow(x, 1), 0, 0, 0, 1, 0);
        x.drop(1, 4);
        DUE.row("no more", gustRow(x, 1), 0, 0, 0, 0);
    }

    private static void lastOfTwenty() {
        DUE.sentence(GUST);
        int[] pressures = new int[20];
        int[] due = new int[20];
        for (int i = 0; i < 20; i++) {
            pressures[i] = i % 2 == 0 ? 90000 : 90061;
            due[i] = i == 0 || i == 19 ? 0 : 1;
        }
        DUE.row("a full cell", gustRow(row(new BaroRuns(), 2, pressures), 2), due);
    }

    private static void limitAbove() {
        DUE.sentence(GUST);
        DUE.row("by the limit", gustRow(row(new BaroRuns(), 0, 90000, 90060, 90000), 0), 0, 0, 0);
        DUE.row("by one more", gustRow(row(new BaroRuns(), 0, 90000, 90061, 90000), 0), 0, 1, 0);
        DUE.row("the one before too near", gustRow(row(new BaroRuns(), 0, 90001, 90061, 90000), 0), 0, 0, 0);
        DUE.row("the one behind too near", gustRow(row(new BaroRuns(), 0, 90000, 90061, 90001), 0), 0, 0, 0);
    }

    private static void limitBelow() {
        DUE.sentence(GUST);
        DUE.row("by the limit", gustRow(row(new BaroRuns(), 0, 90000, 89940, 90000), 0), 0, 0, 0);
        DUE.row("by one more", gustRow(row(new BaroRuns(), 0, 90000, 89939, 90000), 0), 0, 1, 0);
        DUE.row("the one before too near", gustRow(row(new BaroRuns(), 0, 89999, 89939, 90000), 0), 0, 0, 0);
        DUE.row("the one behind too near", gustRow(row(new BaroRuns(), 0, 90000, 89939, 89999), 0), 0, 0, 0);
    }

    private static void betweenBoth() {
        DUE.sentence(GUST);
        DUE.row("rising", gustRow(row(new BaroRuns(), 0, 90000, 95000, 100000), 0), 0, 0, 0);
        DUE.row("falling", gustRow(row(new BaroRuns(), 0, 100000, 95000, 90000), 0), 0, 0, 0);
    }

    private static void neighboursThatAreGusts() {
        DUE.sentence(GUST);
        DUE.row("gusts side by side", gustRow(row(new BaroRuns(), 0, 90000, 91000, 90000, 91000), 0), 0, 1, 1, 0);
        DUE.row("just the next ones", gustRow(row(new BaroRuns(), 0, 90000, 90100, 90100, 90000), 0), 0, 0, 0, 0);
    }

    private static void neighboursWithoutRawHeight() {
        DUE.sentence(GUST);
        BaroRuns x = row(base(10, 100000, 0), 0, 90000, 91000, 90000);
        DUE.row("raw heights", rawRow(x, 0), Due.MISSING, wouldOf(0, 100000, 0, 91000, 0), Due.MISSING);
        DUE.row("a gust among readings without", gustRow(x, 0), 0, 1, 0);
    }

    private static void gustWithoutRawHeight() {
        DUE.sentence(GUST);
        BaroRuns x = row(base(0, 100000, 0), 0, 90000, 91000, 90000);
        DUE.is("no raw height", x.raw(0, 1), Due.MISSING);
        DUE.row("a gust without", gustRow(x, 0), 0, 1, 0);
    }

    private static void otherCellsAreNoNeighbours() {
        DUE.sentence(GUST);
        BaroRuns x = new BaroRuns();
        x.read(0, 1, 10, 90000, 0);
        x.read(1, 1, 20, 91000, 0);
        x.read(0, 1, 30, 90000, 0);
        x.read(2, 1, 5, 90000, 0);
        x.base(15, 90000, 0);
        x.base(25, 90000, 0);
        for (int cell = 0; cell <= 2; cell++) {
            DUE.is("no gusts of cell " + cell, x.reading(cell, 0, 4), 0);
        }
        DUE.is("none at all", x.count(4), 0);
    }

    private static void gustsStay() {
        DUE.sentence("Gusts stay readings of the cell, but they are not good.");
        BaroRuns x = row(base(0, 100000, 0, 20, 100000, 0), 0, 99000, 98000, 99000);
        DUE.is("readings", x.count(1), 3);
        DUE.is("its time", x.reading(0, 1, 0), 10);
        DUE.is("its pressure", x.reading(0, 1, 1), 98000);
        DUE.is("its raw height", x.raw(0, 1), wouldOf(0, 100000, 0, 98000, 0));
        DUE.row("good ones", new int[] {x.reading(0, 0, 5), x.reading(0, 1, 5), x.reading(0, 2, 5)}, 1, 0, 1);
        DUE.is("good ones counted", x.count(13), 2);
        DUE.is("no corrected height", x.corrected(0, 1), Due.MISSING);
        DUE.is("no open loop", x.openLoop(0, 1), Due.MISSING);
        DUE.is("no height of its point", x.point(1, 0), Due.MISSING);
        DUE.is("its time is taken", x.read(0, 1, 10, 99000, 0), Due.IMPOSSIBLE);
    }

    private static void divisions() {
        fallingPressureRoundedDown();
        risingPressureRoundedDown();
        temperatureBelowZeroRoundedDown();
        halfOfTemperaturesRoundedDown();
        halfOfPressuresRoundedDown();
        heightBelowTheBaseRoundedDown();
        heightOfTheBaseAddedBehindDivision();
    }

    private static void baseAtTimes() {
        atReadings();
        besideReadings();
        widestBase();
        nextToEachOther();
        noBase();
        oneBaseReading();
        beforeAndBehind();
        fullBase();
    }

    private static void weatherSteps() {
        noPair();
        justTheLimit();
        justNextToEachOther();
        allSteps();
    }

    private static void rawHeights() {
        beyondAnIntAbove();
        beyondAnIntBelow();
        pressureOfTheBase();
        asTheyAreNow();
        noPressureAtItsTime();
    }

    private static void gusts() {
        noNeighbours();
        firstAndLast();
        lastOfTwenty();
        limitAbove();
        limitBelow();
        betweenBoth();
        neighboursThatAreGusts();
        neighboursWithoutRawHeight();
        gustWithoutRawHeight();
        otherCellsAreNoNeighbours();
        gustsStay();
    }

    public static void main(String[] args) {
        divisions();
        baseAtTimes();
        weatherSteps();
        rawHeights();
        gusts();
        DUE.end();
    }
}
