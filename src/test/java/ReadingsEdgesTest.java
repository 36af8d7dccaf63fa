/** Terms, readings and settings: each sentence that names a boundary, with a test of its own. */
public final class ReadingsEdgesTest {
    private static final Due DUE = new Due();
    private static final int LEAST_INT = Integer.MIN_VALUE;
    private static final int GREATEST_INT = Integer.MAX_VALUE;

    private static void lastCall() {
        DUE.sentence("An object is used for at most 512 calls after it has been made");
        BaroRuns x = Made.level();
        x.read(0, 1, 10, 99000, 100);
        for (int call = 4; call < 512; call++) {
            DUE.is("set as call " + call, x.set(0, call), call == 4 ? 0 : call - 1);
        }
        DUE.is("raw as call 512", x.raw(0, 0), 83394 + 511);
    }

    /** Takes a reading on a new object, of the base or a cell, by its call or as a text. */
    private static int take(String way, int field, int value) {
        int[] it = {500, 100000, 0};
        it[field] = value;
        String numbers = "t" + it[0] + "p" + it[1] + "c" + it[2] + ";";
        BaroRuns x = new BaroRuns();
        return switch (way) {
            case "base" -> x.base(it[0], it[1], it[2]);
            case "read" -> x.read(1, 5, it[0], it[1], it[2]);
            case "text of the base" -> Made.typed(x, "b" + numbers).enter();
            default -> Made.typed(x, "c1@5" + numbers).enter();
        };
    }

    private static void taken(int field, int value) {
        DUE.is("base with " + value, take("base", field, value), 0);
        DUE.is("read with " + value, take("read", field, value), 0);
        DUE.is("text of the base with " + value, take("text of the base", field, value), 1);
        DUE.is("text of a cell with " + value, take("text of a cell", field, value), 1);
    }

    private static void refused(int field, int value) {
        DUE.is("base with " + value, take("base", field, value), Due.INVALID);
        DUE.is("read with " + value, take("read", field, value), Due.INVALID);
        DUE.is("text of the base with " + value, take("text of the base", field, value), Due.IMPOSSIBLE);
        DUE.is("text of a cell with " + value, take("text of a cell", field, value), Due.IMPOSSIBLE);
    }

    private static void timeTooSmall() {
        DUE.sentence("A reading has a time (0 to 10000)");
        refused(0, -1);
        refused(0, LEAST_INT);
    }

    private static void timeLeast() {
        DUE.sentence("A reading has a time (0 to 10000)");
        taken(0, 0);
    }

    private static void timeGreatest() {
        DUE.sentence("A reading has a time (0 to 10000)");
        taken(0, 10000);
    }

    private static void timeTooLarge() {
        DUE.sentence("A reading has a time (0 to 10000)");
        refused(0, 10001);
        refused(0, GREATEST_INT);
    }

    private static void pressureTooSmall() {
        DUE.sentence("a pressure (50000 to 110000)");
        refused(1, 49999);
        refused(1, 0);
        refused(1, LEAST_INT);
    }

    private static void pressureLeast() {
        DUE.sentence("a pressure (50000 to 110000)");
        taken(1, 50000);
    }

    private static void pressureGreatest() {
        DUE.sentence("a pressure (50000 to 110000)");
        taken(1, 110000);
    }

    private static void pressureTooLarge() {
        DUE.sentence("a pressure (50000 to 110000)");
        refused(1, 110001);
        refused(1, GREATEST_INT);
    }

    private static void temperatureTooSmall() {
        DUE.sentence("a temperature (-300 to 500)");
        refused(2, -301);
        refused(2, LEAST_INT);
    }

    private static void temperatureLeast() {
        DUE.sentence("a temperature (-300 to 500)");
        taken(2, -300);
    }

    private static void temperatureGreatest() {
        DUE.sentence("a temperature (-300 to 500)");
        taken(2, 500);
    }

    private static void temperatureTooLarge() {
        DUE.sentence("a temperature (-300 to 500)");
        refused(2, 501);
        refused(2, GREATEST_INT);
    }

    private static void baseFull() {
        DUE.sentence("The base has at most 12 readings");
        BaroRuns x = Made.bases(11);
        DUE.is("the twelfth", x.base(5000, 100000, 0), 11);
        DUE.is("the thirteenth", x.base(6000, 100000, 0), Due.FULL);
        DUE.is("the thirteenth ahead of all others", x.base(5, 100000, 0), Due.FULL);
        DUE.is("readings", x.count(0), 12);
        DUE.is("the last one", x.reading(-1, 11, 0), 5000);
        DUE.is("none behind it", x.reading(-1, 12, 0), Due.INVALID);
    }

    private static void baseFullNoMore() {
        DUE.sentence("The base has at most 12 readings");
        BaroRuns x = Made.bases(12);
        DUE.is("one dropped", x.drop(-1, 3), 11);
        DUE.is("room for one", x.base(5000, 100000, 0), 11);
        DUE.is("full again", x.base(6000, 100000, 0), Due.FULL);
        DUE.is("the last change undone", x.undo(), 4);
        DUE.is("room again", x.base(30, 100000, 0), 3);
        DUE.is("full a third time", x.base(6000, 100000, 0), Due.FULL);
    }

    private static void baseFullByText() {
        DUE.sentence("The base has at most 12 readings");
        String two = "bt991p99000c0;bt992p99000c0;";
        BaroRuns x = Made.typed(Made.bases(10), two);
        DUE.is("the last two by text", x.enter(), 2);
        DUE.is("the next one", x.base(5000, 100000, 0), Due.FULL);
        BaroRuns less = Made.typed(Made.bases(11), two);
        DUE.is("one too many by text", less.enter(), Due.IMPOSSIBLE);
        DUE.is("none of them is taken", less.count(0), 11);
    }

    private static void cellFull() {
        DUE.sentence("cells (0 to 2) at most 20 each");
        for (int cell = 0; cell <= 2; cell++) {
            BaroRuns x = Made.cells(cell, 19);
            DUE.is("the twentieth", x.read(cell, 0, 5000, 100000, 0), 19);
            DUE.is("one more", x.read(cell, 0, 6000, 100000, 0), Due.FULL);
            DUE.is("one more ahead of all others", x.read(cell, 0, 5, 100000, 0), Due.FULL);
            DUE.is("readings", x.count(cell + 1), 20);
            DUE.is("the last one", x.reading(cell, 19, 0), 5000);
            DUE.is("none behind it", x.reading(cell, 20, 0), Due.INVALID);
            for (int other = 1; other <= 2; other++) {
                DUE.is("room in the others", x.read((cell + other) % 3, 0, 5, 100000, 0), 0);
            }
            DUE.is("room in the base", x.base(5, 100000, 0), 0);
        }
    }

    private static void cellFullNoMore() {
        DUE.sentence("cells (0 to 2) at most 20 each");
        for (int cell = 0; cell <= 2; cell++) {
            BaroRuns x = Made.cells(cell, 20);
            DUE.is("one dropped", x.drop(cell, 19), 19);
            DUE.is("room for one", x.read(cell, 0, 5, 100000, 0), 1);
            DUE.is("full again", x.read(cell, 0, 6000, 100000, 0), Due.FULL);
            DUE.is("the last change undone", x.undo(), 4);
            DUE.is("room again", x.read(cell, 0, 6000, 100000, 0), 19);
        }
    }

    private static void allFull() {
        DUE.sentence("The base has at most 12 readings, cells (0 to 2) at most 20 each");
        BaroRuns x = Made.bases(12);
        for (int reading = 0; reading < 20; reading++) {
            for (int cell = 0; cell <= 2; cell++) {
                x.read(cell, cell, 100 + reading, 99000 + cell, reading);
            }
        }
        DUE.same("all are there", Due.counts(x), "12 20 20 20 0 30 0 3 5 0 0 60 50 33");
        for (int cell = 0; cell <= 2; cell++) {
            DUE.is("the last of cell " + cell, x.reading(cell, 19, 1), 99000 + cell);
            DUE.is("full cell " + cell, x.read(cell, 0, 9, 99000, 0), Due.FULL);
        }
        DUE.is("full base", x.base(9, 99000, 0), Due.FULL);
    }

    private static void noSuchCell() {
        DUE.sentence("cells (0 to 2)");
        for (int cell : new int[] {-1, 3, LEAST_INT, GREATEST_INT}) {
            DUE.is("read of " + cell, new BaroRuns().read(cell, 0, 0, 100000, 0), Due.INVALID);
        }
        DUE.is("cell 0", new BaroRuns().read(0, 0, 0, 100000, 0), 0);
        DUE.is("cell 2", new BaroRuns().read(2, 0, 0, 100000, 0), 0);
        DUE.is("cell 3 in a text", Made.typed(new BaroRuns(), "c3@0t0p100000c0;").fault(1), 2);
        DUE.is("cell 2 in a text", Made.typed(new BaroRuns(), "c2@0t0p100000c0;").fault(1), Due.MISSING);
    }

    private static void noSuchPoint() {
        DUE.sentence("a reading of a cell has a point, too (0 to 9)");
        for (int point : new int[] {-1, 10, LEAST_INT, GREATEST_INT}) {
            DUE.is("point " + point, new BaroRuns().read(0, point, 0, 100000, 0), Due.INVALID);
        }
        for (int point = 0; point <= 9; point++) {
            BaroRuns x = new BaroRuns();
            DUE.is("point " + point, x.read(0, point, 0, 100000, 0), 0);
            DUE.is("point of the reading", x.reading(0, 0, 3), point);
        }
    }

    private static final String ORDER = "kept in the order of their times, no two with the same time,"
        + " and numbered from 0 in this order";

    private static int[] timesOf(BaroRuns x, int cell) {
        int[] times = new int[x.count(cell + 1)];
        for (int i = 0; i < times.length; i++) {
            times[i] = x.reading(cell, i, 0);
        }
        return times;
    }

    private static int takeAt(BaroRuns x, int cell, int time) {
        return cell == -1 ? x.base(time, 100000, 0) : x.read(cell, 3, time, 100000, 0);
    }

    private static void numberedByTime() {
        DUE.sentence(ORDER);
        for (int cell = -1; cell <= 2; cell++) {
            BaroRuns x = new BaroRuns();
            DUE.is("the only one", takeAt(x, cell, 50), 0);
            DUE.is("behind the last", takeAt(x, cell, 10000), 1);
            DUE.is("before the first", takeAt(x, cell, 0), 0);
            DUE.is("a minute before another", takeAt(x, cell, 49), 1);
            DUE.is("a minute behind another", takeAt(x, cell, 51), 3);
            DUE.is("a minute before the last", takeAt(x, cell, 9999), 4);
            DUE.is("a minute behind the first", takeAt(x, cell, 1), 1);
            DUE.row("times of " + cell, timesOf(x, cell), 0, 1, 49, 50, 51, 9999, 10000);
        }
    }

    private static void timeTaken() {
        DUE.sentence(ORDER);
        for (int cell = -1; cell <= 2; cell++) {
            BaroRuns x = new BaroRuns();
            for (int time : new int[] {0, 50, 10000}) {
                takeAt(x, cell, time);
                DUE.is("again at once at " + time, takeAt(x, cell, time), Due.IMPOSSIBLE);
            }
            for (int time : new int[] {0, 50, 10000}) {
                DUE.is("again at " + time, takeAt(x, cell, time), Due.IMPOSSIBLE);
            }
            DUE.row("times of " + cell, timesOf(x, cell), 0, 50, 10000);
        }
    }

    private static void timeFreeElsewhere() {
        DUE.sentence(ORDER);
        BaroRuns x = new BaroRuns();
        for (int cell = -1; cell <= 2; cell++) {
            DUE.is("the same time in " + cell, takeAt(x, cell, 70), 0);
        }
        for (int cell = -1; cell <= 2; cell++) {
            DUE.is("a second time in " + cell, takeAt(x, cell, 70), Due.IMPOSSIBLE);
        }
    }

    private static void timeFreeAgain() {
        DUE.sentence(ORDER);
        for (int cell = -1; cell <= 2; cell++) {
            BaroRuns x = new BaroRuns();
            takeAt(x, cell, 70);
            takeAt(x, cell, 80);
            x.drop(cell, 1);
            DUE.is("free when dropped", takeAt(x, cell, 80), 1);
            x.undo();
            DUE.is("free when undone", takeAt(x, cell, 80), 1);
        }
    }

    private static void wholeReadingsMove() {
        DUE.sentence(ORDER);
        for (int cell = 0; cell <= 2; cell++) {
            BaroRuns x = new BaroRuns();
            x.read(cell, 1, 30, 90001, 11);
            x.read(cell, 2, 20, 90002, 12);
            x.read(cell, 3, 10, 90003, 13);
            for (int reading = 0; reading < 3; reading++) {
                int[] it = new int[4];
                for (int what = 0; what < 4; what++) {
                    it[what] = x.reading(cell, reading, what);
                }
                int made = 3 - reading;
                DUE.row("reading " + reading, it, 40 - 10 * made, 90000 + made, 10 + made, made);
            }
        }
    }

    private static final String SETTINGS = "The settings are (in parentheses: range; first value)";

    private static void setting(int what, int least, int greatest, int first) {
        BaroRuns x = new BaroRuns();
        DUE.is("first value of " + what, x.count(10 + what), first);
        for (int value : new int[] {least - 1, greatest + 1, LEAST_INT, GREATEST_INT}) {
            DUE.is("set(" + what + ", " + value + ")", x.set(what, value), Due.INVALID);
            DUE.is("still the first value", x.count(10 + what), first);
        }
        DUE.is("set to the least", x.set(what, least), first);
        DUE.is("the least", x.count(10 + what), least);
        DUE.is("set to the greatest", x.set(what, greatest), least);
        DUE.is("the greatest", x.count(10 + what), greatest);
    }

    private static void heightOfTheBase() {
        DUE.sentence(SETTINGS + ": 0 the height of the base (-500000 to 9000000; 0)");
        setting(0, -500000, 9000000, 0);
        BaroRuns x = Made.level();
        DUE.is("level with the base at first", x.would(0, 100000, 100), 0);
        x.set(0, -500000);
        DUE.is("level with the lowest base", x.would(0, 100000, 100), -500000);
        x.set(0, 9000000);
        DUE.is("level with the highest base", x.would(0, 100000, 100), 9000000);
    }

    private static int gusts(int limit, int difference) {
        BaroRuns x = new BaroRuns();
        if (limit != 0) {
            x.set(1, limit);
        }
        return Made.reads(x, 0, new int[] {0, 1, 2}, new int[] {1, 2, 3},
            new int[] {90000, 90000 + difference, 90000}).count(4);
    }

    private static void gustLimit() {
        DUE.sentence(SETTINGS + ": 1 the gust limit (1 to 5000; 60)");
        setting(1, 1, 5000, 60);
        DUE.row("gusts with the first limit", new int[] {gusts(0, 60), gusts(0, 61)}, 0, 1);
        DUE.row("gusts with the least limit", new int[] {gusts(1, 1), gusts(1, 2)}, 0, 1);
        DUE.row("gusts with the greatest limit", new int[] {gusts(5000, 5000), gusts(5000, 5001)}, 0, 1);
    }

    private static int steps(int limit, int difference) {
        BaroRuns x = new BaroRuns();
        if (limit != 0) {
            x.set(2, limit);
        }
        x.base(0, 100000, -300);
        x.base(1, 100000, -300 + difference);
        return x.count(6);
    }

    private static void stepLimit() {
        DUE.sentence(SETTINGS + ": 2 the step limit (1 to 500; 50)");
        setting(2, 1, 500, 50);
        DUE.row("steps with the first limit", new int[] {steps(0, 49), steps(0, 50)}, 0, 1);
        DUE.row("steps with the least limit", new int[] {steps(1, 0), steps(1, 1)}, 0, 1);
        DUE.row("steps with the greatest limit", new int[] {steps(500, 499), steps(500, 500)}, 0, 1);
    }

    private static void noSuchSetting() {
        DUE.sentence(SETTINGS + ": 0 .., 1 .., 2 ..");
        for (int what : new int[] {-1, 3, LEAST_INT, GREATEST_INT}) {
            DUE.is("setting " + what, new BaroRuns().set(what, 50), Due.INVALID);
        }
    }

    private static void ranges() {
        timeTooSmall();
        timeLeast();
        timeGreatest();
        timeTooLarge();
        pressureTooSmall();
        pressureLeast();
        pressureGreatest();
        pressureTooLarge();
        temperatureTooSmall();
        temperatureLeast();
        temperatureGreatest();
        temperatureTooLarge();
        noSuchCell();
        noSuchPoint();
    }

    public static void main(String[] args) {
        lastCall();
        ranges();
        baseFull();
        baseFullNoMore();
        baseFullByText();
        cellFull();
        cellFullNoMore();
        allFull();
        numberedByTime();
        timeTaken();
        timeFreeElsewhere();
        timeFreeAgain();
        wholeReadingsMove();
        heightOfTheBase();
        gustLimit();
        stepLimit();
        noSuchSetting();
        DUE.end();
    }
}
