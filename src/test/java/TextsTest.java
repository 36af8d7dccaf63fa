import java.util.function.Supplier;

/** Promises 20 to 23: type, clearText, fault, enter. */
public final class TextsTest {
    private static final Due DUE = new Due();

    private static void same(String call, String got, String want) {
        DUE.is(call + " [" + got + "], due [" + want + "]", got.equals(want) ? 1 : 0, 1);
    }

    /** Types a text into a new object and looks at its fault: reason 0 stands for none. */
    private static void fault(Supplier<BaroRuns> made, String text, int position, int reason) {
        BaroRuns x = made.get();
        Due.typeAll(x, text);
        DUE.is("position of the fault of " + text, x.fault(0), reason == 0 ? Due.MISSING : position);
        DUE.is("reason of the fault of " + text, x.fault(1), reason == 0 ? Due.MISSING : reason);
        if (reason != 0) {
            String before = Due.counts(x);
            DUE.is("enter of " + text, x.enter(), Due.IMPOSSIBLE);
            same("after the fault of " + text, Due.counts(x), before);
        }
    }

    /** Promise 20. */
    private static void type() {
        BaroRuns x = new BaroRuns();
        DUE.is("type(31)", x.type(31), Due.INVALID);
        DUE.is("type(127)", x.type(127), Due.INVALID);
        DUE.is("type(-1)", x.type(-1), Due.INVALID);
        DUE.is("nothing typed", x.count(9), 0);
        for (int i = 1; i <= 100; i++) {
            DUE.is("type", x.type(i % 2 == 0 ? 32 : 126), i);
        }
        DUE.is("full", x.type(32), Due.FULL);
        DUE.is("full, out of range", x.type(127), Due.INVALID);
        DUE.is("length", x.count(9), 100);
        DUE.is("no change", x.count(8), 0);
    }

    /** Promise 21. */
    private static void clearText() {
        BaroRuns x = new BaroRuns();
        DUE.is("empty", x.clearText(), 0);
        Due.typeAll(x, "x".repeat(100));
        DUE.is("full", x.clearText(), 100);
        DUE.is("empty again", x.clearText(), 0);
        DUE.is("length", x.count(9), 0);
        DUE.is("typed anew", x.type('b'), 1);
        DUE.is("no change", x.count(8), 0);
    }

    /** Promise 22: reason 1. */
    private static void form() {
        DUE.is("what below", new BaroRuns().fault(-1), Due.INVALID);
        DUE.is("what above", new BaroRuns().fault(2), Due.INVALID);
        Supplier<BaroRuns> x = BaroRuns::new;
        fault(x, "", 0, 0);
        String base = "bt1p99000c5;";
        String cell = "c0@0t1p99000c5;";
        fault(x, base, 0, 0);
        fault(x, cell, 0, 0);
        for (int length = 1; length < base.length(); length++) {
            fault(x, base.substring(0, length), 0, 1);
        }
        for (int length = 1; length < cell.length(); length++) {
            fault(x, cell.substring(0, length), 0, 1);
            fault(x, base + cell.substring(0, length), base.length(), 1);
        }
        String[] wrong = {";", " " + base, base.toUpperCase(), "b@1t1p99000c5;", "t1p99000c5;", "c@0t1p99000c5;",
            "c0@t1p99000c5;", "c00@0t1p99000c5;", "c0@00t1p99000c5;", "c0t1p99000c5;", "c-0@0t1p99000c5;",
            "bt000001p99000c5;", "btp99000c5;", "bt-1p99000c5;", "bt1p0099000c5;", "bt1pc5;", "bt1p-99000c5;",
            "bt1p99000c0005;", "bt1p99000c;", "bt1p99000c-;", "bt1p99000c--5;", "bt1p99000c+5;",
            "bt1p99000c-0005;", "bt1p99000c5 ;", "bt1p99000t5;", "bp99000t1c5;", "bt1p99000c5,",
            "bt:p99000c5;", "bt/p99000c5;", "bt1:p99000c5;", "bt1/p99000c5;"};
        for (String text : wrong) {
            fault(x, text, 0, 1);
        }
        fault(x, base + ";", 12, 1);
        fault(x, base + " ", 12, 1);
        fault(x, base + cell + "x" + base, 27, 1);
        fault(x, "c9@0t99999p1c999" + base, 0, 1);
        fault(x, "bt00001p099000c-05;", 0, 0);
        fault(x, "bt00000p050000c-000;", 0, 0);
    }

    /** Promise 22: reason 2. */
    private static void range() {
        Supplier<BaroRuns> x = BaroRuns::new;
        fault(x, "bt0p50000c-300;bt10000p110000c500;", 0, 0);
        fault(x, "c2@9t0p50000c-300;c2@0t10000p110000c500;", 0, 0);
        String[] wrong = {"bt10001p99000c5;", "bt99999p99000c5;", "bt1p49999c5;", "bt1p110001c5;", "bt1p0c5;",
            "bt1p999999c5;", "bt1p99000c-301;", "bt1p99000c501;", "bt1p99000c999;", "bt1p99000c-999;",
            "c3@0t1p99000c5;", "c9@0t1p99000c5;", "c0@0t10001p99000c5;", "c0@0t1p49999c5;", "c0@0t1p99000c501;"};
        for (String text : wrong) {
            fault(x, text, 0, 2);
            fault(x, "c1@1t1p99000c5;" + text, 15, 2);
        }
        fault(x, "bt1p1c5;x", 0, 2);
        fault(TextsTest::twoTimes, "bt10p99000c501;", 0, 2);
    }

    private static BaroRuns twoTimes() {
        BaroRuns x = new BaroRuns();
        x.base(10, 99000, 0);
        x.read(1, 0, 20, 99000, 0);
        return x;
    }

    /** Promise 22: reason 3. */
    private static void time() {
        Supplier<BaroRuns> x = TextsTest::twoTimes;
        fault(x, "bt10p99000c0;", 0, 3);
        fault(x, "bt20p99000c0;", 0, 0);
        fault(x, "c1@5t20p99000c0;", 0, 3);
        fault(x, "c0@5t20p99000c0;c2@5t20p99000c0;c1@5t10p99000c0;", 0, 0);
        fault(x, "bt5p99000c0;bt00005p98000c1;", 12, 3);
        fault(x, "c2@0t5p99000c0;c0@0t5p99000c0;c2@1t5p98000c1;x", 30, 3);
        fault(x, "bt5p99000c0;bt10p99000c0;x", 12, 3);
    }

    /** Room for two readings of the base, for so many of cell 2, and for all of the others. */
    private static BaroRuns nearlyFull(int room) {
        BaroRuns x = new BaroRuns();
        for (int i = 0; i < 10; i++) {
            x.base(i, 99000, 0);
        }
        for (int i = room; i < 20; i++) {
            x.read(2, 0, i - room, 99000, 0);
        }
        return x;
    }

    /** Promise 22: reason 4. */
    private static void room() {
        Supplier<BaroRuns> x = () -> nearlyFull(1);
        fault(x, "bt10p99000c0;bt11p99000c0;", 0, 0);
        fault(x, "bt10p99000c0;bt11p99000c0;bt12p99000c0;", 26, 4);
        fault(x, "bt10p99000c0;bt11p99000c0;bt11p99000c0;", 26, 3);
        fault(x, "bt10p99000c0;bt11p99000c0;bt12p99000c501;", 26, 2);
        fault(x, "c2@0t90p99000c0;", 0, 0);
        fault(x, "c2@0t90p99000c0;c1@0t90p99000c0;c2@1t91p99000c0;", 32, 4);
        fault(x, "c2@0t90p99000c0;bt90p99000c0;c2@1t90p99000c0;", 29, 3);
        fault(() -> nearlyFull(2), "c2@0t90p99000c0;c1@0t90p99000c0;c2@1t91p99000c0;", 0, 0);
    }

    /** Promise 23. */
    private static void enter() {
        BaroRuns x = new BaroRuns();
        DUE.is("enter of nothing", x.enter(), 0);
        DUE.is("is a change", x.count(8), 1);
        Due.typeAll(x, "bt90p100100c160;c1@7t20p98000c-20;bt0p100000c150;c1@0t5p098000c-0;");
        DUE.is("no fault", x.fault(0), Due.MISSING);
        DUE.is("enter", x.enter(), 4);
        same("counts", Due.counts(x), "2 0 2 0 0 0 0 2 2 66 0 60 50 2");
        DUE.is("base time", x.reading(-1, 0, 0), 0);
        DUE.is("base pressure", x.reading(-1, 1, 1), 100100);
        DUE.is("base temperature", x.reading(-1, 1, 2), 160);
        DUE.is("cell time", x.reading(1, 0, 0), 5);
        DUE.is("cell pressure", x.reading(1, 0, 1), 98000);
        DUE.is("cell temperature 0", x.reading(1, 0, 2), 0);
        DUE.is("cell temperature", x.reading(1, 1, 2), -20);
        DUE.is("cell point", x.reading(1, 1, 3), 7);
        DUE.is("raw height", x.raw(1, 1), 167422);
        DUE.is("again", x.enter(), Due.IMPOSSIBLE);
        DUE.is("the first one is there", x.fault(1), 3);
        DUE.is("one state for all readings", x.undo(), 1);
        same("counts without them", Due.counts(x), "0 0 0 0 0 0 0 0 1 66 0 60 50 0");
        DUE.is("the text can be entered again", x.enter(), 4);
        x.clearText();
        Due.typeAll(x, "c0@1t5p98000c5;bt0p98000c5;");
        DUE.is("enter with a fault behind", x.enter(), Due.IMPOSSIBLE);
        same("nothing of it is taken", Due.counts(x), "2 0 2 0 0 0 0 2 2 27 0 60 50 2");
    }

    public static void main(String[] args) {
        type();
        clearText();
        form();
        range();
        time();
        room();
        enter();
        DUE.end();
    }
}
