/** Terms, texts: each sentence that names a boundary, with a test of its own. */
public final class TextsEdgesTest {
    private static final Due DUE = new Due();
    private static final int NONE = Due.MISSING;
    private static final String BASE = "bt1p99000c5;";
    private static final String CELL = "c0@7t1p99000c5;";

    /** The text, typed into the object, has no fault and gives so many readings. */
    private static void takenBy(BaroRuns x, String text, int readings) {
        Made.typed(x, text);
        DUE.is("position of the fault of " + text, x.fault(0), NONE);
        DUE.is("reason of the fault of " + text, x.fault(1), NONE);
        DUE.is("enter of " + text, x.enter(), readings);
    }

    private static void taken(String text, int readings) {
        takenBy(new BaroRuns(), text, readings);
    }

    private static void faultIn(BaroRuns x, String text, int position, int reason) {
        Made.typed(x, text);
        DUE.is("position of the fault of " + text, x.fault(0), position);
        DUE.is("reason of the fault of " + text, x.fault(1), reason);
        DUE.is("enter of " + text, x.enter(), Due.IMPOSSIBLE);
    }

    private static void fault(String text, int position, int reason) {
        faultIn(new BaroRuns(), text, position, reason);
    }

    private static void noForm(String... texts) {
        for (String text : texts) {
            fault(text, 0, 1);
            fault(BASE + text, BASE.length(), 1);
        }
    }

    // ---- the length

    private static final String LENGTH = "There is a text of at most 100 characters, initially empty";

    private static void emptyAtFirst() {
        DUE.sentence(LENGTH);
        BaroRuns x = new BaroRuns();
        DUE.is("length", x.count(9), 0);
        DUE.is("clearText", x.clearText(), 0);
        DUE.is("fault", x.fault(0), NONE);
        DUE.is("enter", x.enter(), 0);
        DUE.is("readings", x.count(0) + x.count(1) + x.count(2) + x.count(3), 0);
    }

    private static void hundredCharacters() {
        DUE.sentence(LENGTH);
        BaroRuns x = new BaroRuns();
        for (int i = 1; i <= 100; i++) {
            DUE.is("type as number " + i, x.type('x'), i);
        }
        DUE.is("type as number 101", x.type('x'), Due.FULL);
        DUE.is("type as number 102", x.type(';'), Due.FULL);
        DUE.is("length", x.count(9), 100);
        DUE.is("clearText", x.clearText(), 100);
        DUE.is("room again", x.type('b'), 1);
    }

    /** Readings up to the very last character that the text has room for. */
    private static void readingsToTheLastCharacter() {
        DUE.sentence(LENGTH);
        String text = "c0@1t0p99000c0;c1@2t1p99000c0;c2@3t2p99000c0;c0@4t3p99000c0;c1@5t4p99000c0;"
            + "bt1p50000c0;bt2p110000c0;";
        DUE.is("characters", text.length(), 100);
        taken(text, 7);
        fault(text.substring(0, 99), 87, 1);
        fault(text.substring(0, 99) + ":", 87, 1);
    }

    private static void mostReadings() {
        DUE.sentence(LENGTH);
        StringBuilder text = new StringBuilder();
        for (int i = 0; i < 8; i++) {
            text.append("bt").append(i).append("p50000c0;");
        }
        taken(text.toString(), 8);
    }

    private static void clearedText() {
        DUE.sentence(LENGTH);
        BaroRuns x = Made.typed(new BaroRuns(), BASE + "x");
        DUE.is("clearText", x.clearText(), 13);
        DUE.is("no fault", x.fault(0), NONE);
        Made.typed(x, "b");
        DUE.is("what was behind is gone", x.fault(0), 0);
        DUE.is("enter", x.enter(), Due.IMPOSSIBLE);
        DUE.is("just one character", x.clearText(), 1);
        Made.typed(x, BASE.replace(";", ""));
        DUE.is("no end is left over from before", x.fault(1), 1);
        DUE.is("one character less", x.clearText(), 11);
        takenBy(x, CELL, 1);
    }

    // ---- the form

    private static void eachFollowedBySemicolon() {
        DUE.sentence("readings, each followed by \";\"");
        noForm(";", BASE.replace(";", ""), BASE.replace(';', ','), CELL.replace(";", ""), " " + BASE);
        fault(BASE + ";", 12, 1);
        fault(BASE + " ", 12, 1);
        fault(BASE.replace(";", "") + CELL, 0, 1);
        taken(BASE + CELL, 2);
    }

    private static void brokenOff() {
        DUE.sentence("readings, each followed by \";\"");
        for (String reading : new String[] {BASE, CELL, "bt10000p110000c-300;", "c2@9t10000p110000c-300;"}) {
            for (int length = 1; length < reading.length(); length++) {
                noForm(reading.substring(0, length));
            }
        }
    }

    private static void baseOrCell() {
        DUE.sentence("\"b\" (the base) or \"c\" and a cell (any one digit)");
        taken("c0@7t1p99000c5;", 1);
        taken("c2@7t1p99000c5;", 1);
        fault("c3@7t1p99000c5;", 0, 2);
        fault("c9@7t1p99000c5;", 0, 2);
        noForm("c@7t1p99000c5;", "c00@7t1p99000c5;", "c10@7t1p99000c5;", "c-1@7t1p99000c5;", "b0@7t1p99000c5;",
            "c:@7t1p99000c5;", "c/@7t1p99000c5;", "0@7t1p99000c5;", "@7t1p99000c5;", "Bt1p99000c5;",
            "C0@7t1p99000c5;", "t1p99000c5;", "bb" + BASE);
    }

    private static void onePoint() {
        DUE.sentence("then, for a cell, \"@\" and a point (one digit)");
        taken("c0@0t1p99000c5;", 1);
        taken("c0@9t1p99000c5;", 1);
        noForm("c0@t1p99000c5;", "c0@00t1p99000c5;", "c0@10t1p99000c5;", "c0t1p99000c5;", "c07t1p99000c5;",
            "c0@-1t1p99000c5;", "b@7t1p99000c5;", "c0@:t1p99000c5;", "c0@/t1p99000c5;");
    }

    private static void digitsOfTime() {
        DUE.sentence("then \"t\" and a time (1 to 5 digits)");
        taken("bt0p99000c5;", 1);
        taken("bt10000p99000c5;", 1);
        taken("bt00000p99000c5;", 1);
        taken("bt00009p99000c5;", 1);
        noForm("btp99000c5;", "bt000000p99000c5;", "bt000001p99000c5;", "bt100000p99000c5;", "bt-1p99000c5;",
            "bt 1p99000c5;", "bt1 p99000c5;", "b1p99000c5;", "bT1p99000c5;", "bt:p99000c5;", "bt/p99000c5;");
    }

    private static void digitsOfPressure() {
        DUE.sentence("\"p\" and a pressure (1 to 6 digits)");
        taken("bt1p50000c5;", 1);
        taken("bt1p110000c5;", 1);
        taken("bt1p050000c5;", 1);
        fault("bt1p0c5;", 0, 2);
        fault("bt1p999999c5;", 0, 2);
        noForm("bt1pc5;", "bt1p0050000c5;", "bt1p0110000c5;", "bt1p1000000c5;", "bt1p-99000c5;", "bt199000c5;",
            "bt1P99000c5;", "bt1p9900:c5;", "bt1p9900/c5;");
    }

    private static void digitsOfTemperature() {
        DUE.sentence("\"c\" and a temperature (an optional \"-\" and 1 to 3 digits)");
        taken("bt1p99000c0;", 1);
        taken("bt1p99000c500;", 1);
        taken("bt1p99000c000;", 1);
        taken("bt1p99000c-0;", 1);
        taken("bt1p99000c-300;", 1);
        noForm("bt1p99000c;", "bt1p99000c-;", "bt1p99000c0000;", "bt1p99000c-0000;", "bt1p99000c0500;",
            "bt1p99000c--5;", "bt1p99000c+5;", "bt1p99000c5-;", "bt1p99000-5;", "bt1p99000C5;", "bt1p99000c5:;");
    }

    private static void leadingZeros() {
        DUE.sentence("a time (1 to 5 digits), \"p\" and a pressure (1 to 6 digits)");
        BaroRuns x = new BaroRuns();
        takenBy(x, "c1@6t00012p050001c-007;", 1);
        int[] it = {x.reading(1, 0, 0), x.reading(1, 0, 1), x.reading(1, 0, 2), x.reading(1, 0, 3)};
        DUE.row("the reading", it, 12, 50001, -7, 6);
    }

    // ---- the fault

    private static final String POSITION = "The fault of the text is the position, from 0, of the first character"
        + " of the first reading that is not possible";

    private static void positions() {
        DUE.sentence(POSITION);
        fault("x", 0, 1);
        fault("x" + BASE, 0, 1);
        fault(BASE + "x", 12, 1);
        fault(BASE + CELL + "bt1p9", 27, 1);
        fault(BASE + "bt2p1c1;" + "x", 12, 2);
        fault(BASE + BASE + "bt2p1c1;", 12, 3);
    }

    private static void lastPosition() {
        DUE.sentence(POSITION);
        String full = "c0@1t10p99000c10;c0@2t20p99000c20;c0@3t30p99000c30;c0@4t40p99000c40;c0@5t50p99000c50;"
            + "bt1p99000c-50;";
        DUE.is("characters", full.length(), 99);
        fault(full + "x", 99, 1);
        taken(full, 6);
    }

    private static final String RANGE = "2 if a number is out of its range";

    private static void outOfRange() {
        DUE.sentence(RANGE);
        taken("bt0p50000c-300;bt10000p110000c500;c0@0t0p50000c-300;c2@9t10000p110000c500;", 4);
        fault("bt10001p99000c0;", 0, 2);
        fault("bt99999p99000c0;", 0, 2);
        fault("bt0p49999c0;", 0, 2);
        fault("bt0p110001c0;", 0, 2);
        fault("bt0p99000c-301;", 0, 2);
        fault("bt0p99000c501;", 0, 2);
        fault("c3@0t0p99000c0;", 0, 2);
    }

    private static void cellOutOfRange() {
        DUE.sentence(RANGE);
        fault("c2@9t10001p99000c0;", 0, 2);
        fault("c2@9t0p49999c0;", 0, 2);
        fault("c2@9t0p110001c0;", 0, 2);
        fault("c2@9t0p99000c-301;", 0, 2);
        fault("c2@9t0p99000c501;", 0, 2);
        fault("c2@9t99999p1c999;", 0, 2);
    }

    private static final String TIME = "3 if the base, or this cell, has a reading at this time"
        + " (there, or ahead in the text)";

    private static BaroRuns withTimes() {
        BaroRuns x = new BaroRuns();
        x.base(10, 99000, 0);
        x.read(0, 0, 20, 99000, 0);
        x.read(2, 0, 30, 99000, 0);
        return x;
    }

    private static void timeThere() {
        DUE.sentence(TIME);
        faultIn(withTimes(), "bt10p98000c1;", 0, 3);
        faultIn(withTimes(), "bt00010p98000c1;", 0, 3);
        faultIn(withTimes(), "c0@5t20p98000c1;", 0, 3);
        faultIn(withTimes(), "c2@5t30p98000c1;", 0, 3);
        takenBy(withTimes(), "bt9p99000c0;bt11p99000c0;bt20p99000c0;bt30p99000c0;", 4);
        takenBy(withTimes(), "c0@0t10p99000c0;c1@0t20p99000c0;c2@0t20p99000c0;c0@0t30p99000c0;", 4);
    }

    private static void timeAhead() {
        DUE.sentence(TIME);
        fault("bt5p99000c0;bt6p99000c0;bt5p98000c1;", 24, 3);
        fault("c1@0t5p99000c0;bt5p99000c0;c0@0t5p99000c0;c1@9t5p98000c1;", 42, 3);
        taken("c1@0t5p99000c0;bt5p99000c0;c0@0t5p99000c0;c2@9t5p98000c1;", 4);
    }

    private static void timeFreeAgain() {
        DUE.sentence(TIME);
        BaroRuns x = new BaroRuns();
        takenBy(x, BASE, 1);
        DUE.is("it is there now", x.fault(1), 3);
        x.drop(-1, 0);
        DUE.is("dropped", x.fault(1), NONE);
        x.undo();
        DUE.is("back", x.fault(1), 3);
        x.undo();
        DUE.is("never entered", x.fault(1), NONE);
    }

    private static final String ROOM = "4 if there is no room for it (with those ahead in the text)";

    private static void noRoomInBase() {
        DUE.sentence(ROOM);
        faultIn(Made.bases(12), "bt991p99000c0;", 0, 4);
        takenBy(Made.bases(11), "bt991p99000c0;", 1);
        faultIn(Made.bases(11), "bt991p99000c0;bt992p99000c0;", 14, 4);
        takenBy(Made.bases(10), "bt991p99000c0;bt992p99000c0;", 2);
        takenBy(Made.bases(12), "c0@0t991p99000c0;", 1);
    }

    private static void noRoomInCell() {
        DUE.sentence(ROOM);
        for (int cell = 0; cell <= 2; cell++) {
            String first = "c" + cell + "@0t991p99000c0;";
            String second = "c" + cell + "@0t992p99000c0;";
            String other = "c" + (cell + 1) % 3 + "@0t991p99000c0;";
            faultIn(Made.cells(cell, 20), first, 0, 4);
            takenBy(Made.cells(cell, 19), first + other, 2);
            faultIn(Made.cells(cell, 19), first + other + second, 34, 4);
            takenBy(Made.cells(cell, 18), first + second, 2);
            takenBy(Made.cells(cell, 20), other + "bt991p99000c0;", 2);
        }
    }

    private static void roomThatTheTextFills() {
        DUE.sentence(ROOM);
        BaroRuns x = Made.bases(11);
        takenBy(x, "bt991p99000c0;", 1);
        DUE.is("full now, but its time is there", x.fault(1), 3);
        x.clearText();
        faultIn(x, "bt992p99000c0;", 0, 4);
        x.drop(-1, 0);
        DUE.is("room again", x.fault(1), NONE);
    }

    private static final String FIRST = "the first one of these that applies";

    private static void formBeforeRange() {
        DUE.sentence(FIRST);
        fault("bt10001p1c999", 0, 1);
        fault("c9@0t99999p0c-999", 0, 1);
        fault("bt10001p1c9999;", 0, 1);
    }

    private static void rangeBeforeTime() {
        DUE.sentence(FIRST);
        faultIn(withTimes(), "bt10p98000c501;", 0, 2);
        faultIn(withTimes(), "c0@5t20p49999c1;", 0, 2);
        fault(BASE + "bt1p99000c501;", 12, 2);
    }

    private static void rangeBeforeRoom() {
        DUE.sentence(FIRST);
        faultIn(Made.bases(12), "bt991p99000c501;", 0, 2);
        faultIn(Made.cells(1, 20), "c1@0t991p99000c501;", 0, 2);
    }

    private static void timeBeforeRoom() {
        DUE.sentence(FIRST);
        faultIn(Made.bases(12), "bt110p99000c0;", 0, 3);
        faultIn(Made.cells(1, 20), "c1@0t190p99000c0;", 0, 3);
        faultIn(Made.bases(11), "bt991p99000c0;bt991p99000c0;", 14, 3);
    }

    private static void formBeforeRoomAndTime() {
        DUE.sentence(FIRST);
        faultIn(Made.bases(12), "bt991p99000c0", 0, 1);
        faultIn(withTimes(), "bt10p98000c1", 0, 1);
    }

    private static void firstReadingBeforeFirstReason() {
        DUE.sentence(POSITION);
        faultIn(Made.bases(12), "bt991p99000c0;bt10p98000c1;bt1p1c1;x", 0, 4);
        faultIn(withTimes(), "bt10p98000c1;bt1p1c1;x", 0, 3);
        fault("bt1p1c1;x", 0, 2);
    }

    private static void lengths() {
        emptyAtFirst();
        hundredCharacters();
        readingsToTheLastCharacter();
        mostReadings();
        clearedText();
    }

    private static void forms() {
        eachFollowedBySemicolon();
        brokenOff();
        baseOrCell();
        onePoint();
        digitsOfTime();
        digitsOfPressure();
        digitsOfTemperature();
        leadingZeros();
    }

    private static void faults() {
        positions();
        lastPosition();
        outOfRange();
        cellOutOfRange();
        timeThere();
        timeAhead();
        timeFreeAgain();
        noRoomInBase();
        noRoomInCell();
        roomThatTheTextFills();
        formBeforeRange();
        rangeBeforeTime();
        rangeBeforeRoom();
        timeBeforeRoom();
        formBeforeRoomAndTime();
        firstReadingBeforeFirstReason();
    }

    public static void main(String[] args) {
        lengths();
        forms();
        faults();
        DUE.end();
    }
}
