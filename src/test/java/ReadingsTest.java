/** Promises 1 to 8: a new object, set, base, read, drop, reading, count, undo. */
public final class ReadingsTest {
    private static final Due DUE = new Due();

    private static void same(String call, String got, String want) {
        DUE.is(call + " [" + got + "], due [" + want + "]", got.equals(want) ? 1 : 0, 1);
    }

    /** Promise 1. */
    private static void newObject() {
        BaroRuns x = new BaroRuns();
        same("a new object", Due.counts(x), "0 0 0 0 0 0 0 0 0 0 0 60 50 0");
        x.base(0, 100000, 100);
        x.set(0, 5);
        same("a new object beside another", Due.counts(new BaroRuns()), "0 0 0 0 0 0 0 0 0 0 0 60 50 0");
    }

    /** Promise 2. */
    private static void settings() {
        int[][] ranges = {{-500000, 9000000, 0}, {1, 5000, 60}, {1, 500, 50}};
        for (int what = 0; what < 3; what++) {
            BaroRuns x = new BaroRuns();
            int[] range = ranges[what];
            DUE.is("set below " + what, x.set(what, range[0] - 1), Due.INVALID);
            DUE.is("set above " + what, x.set(what, range[1] + 1), Due.INVALID);
            DUE.is("no change " + what, x.count(8), 0);
            DUE.is("set least " + what, x.set(what, range[0]), range[2]);
            DUE.is("least " + what, x.count(10 + what), range[0]);
            DUE.is("set greatest " + what, x.set(what, range[1]), range[0]);
            DUE.is("greatest " + what, x.count(10 + what), range[1]);
            DUE.is("set the same " + what, x.set(what, range[1]), range[1]);
            DUE.is("three changes " + what, x.count(8), 3);
        }
        BaroRuns x = new BaroRuns();
        DUE.is("set(-1, 50)", x.set(-1, 50), Due.INVALID);
        DUE.is("set(3, 50)", x.set(3, 50), Due.INVALID);
        DUE.is("set(least, 50)", x.set(Integer.MIN_VALUE, 50), Due.INVALID);
        same("after wrong settings", Due.counts(x), "0 0 0 0 0 0 0 0 0 0 0 60 50 0");
    }

    /** Promise 3. */
    private static void base() {
        BaroRuns x = new BaroRuns();
        DUE.is("base time below", x.base(-1, 100000, 0), Due.INVALID);
        DUE.is("base time above", x.base(10001, 100000, 0), Due.INVALID);
        DUE.is("base pressure below", x.base(0, 49999, 0), Due.INVALID);
        DUE.is("base pressure above", x.base(0, 110001, 0), Due.INVALID);
        DUE.is("base temperature below", x.base(0, 100000, -301), Due.INVALID);
        DUE.is("base temperature above", x.base(0, 100000, 501), Due.INVALID);
        DUE.is("base nothing taken", x.count(0) + x.count(8), 0);
        DUE.is("base greatest", x.base(10000, 110000, 500), 0);
        DUE.is("base least", x.base(0, 50000, -300), 0);
        for (int i = 1; i <= 10; i++) {
            DUE.is("base between " + i, x.base(10 * i, 90000 + i, i), i);
        }
        DUE.is("base full", x.base(5, 100000, 0), Due.FULL);
        DUE.is("base full, time taken", x.base(10, 100000, 0), Due.IMPOSSIBLE);
        DUE.is("base full, time taken, out of range", x.base(10, 1, 0), Due.INVALID);
        DUE.is("base count", x.count(0), 12);
        DUE.is("base last time", x.reading(-1, 11, 0), 10000);
        DUE.is("base last pressure", x.reading(-1, 11, 1), 110000);
        DUE.is("base last temperature", x.reading(-1, 11, 2), 500);
        DUE.is("base first temperature", x.reading(-1, 0, 2), -300);
    }

    /** Promise 4. */
    private static void read() {
        BaroRuns x = new BaroRuns();
        DUE.is("read cell below", x.read(-1, 0, 0, 100000, 0), Due.INVALID);
        DUE.is("read cell above", x.read(3, 0, 0, 100000, 0), Due.INVALID);
        DUE.is("read point below", x.read(0, -1, 0, 100000, 0), Due.INVALID);
        DUE.is("read point above", x.read(0, 10, 0, 100000, 0), Due.INVALID);
        DUE.is("read time below", x.read(0, 0, -1, 100000, 0), Due.INVALID);
        DUE.is("read time above", x.read(0, 0, 10001, 100000, 0), Due.INVALID);
        DUE.is("read pressure below", x.read(0, 0, 0, 49999, 0), Due.INVALID);
        DUE.is("read pressure above", x.read(0, 0, 0, 110001, 0), Due.INVALID);
        DUE.is("read temperature below", x.read(0, 0, 0, 100000, -301), Due.INVALID);
        DUE.is("read temperature above", x.read(0, 0, 0, 100000, 501), Due.INVALID);
        DUE.is("read nothing taken", x.count(1) + x.count(8), 0);
        x.base(50, 100000, 0);
        for (int cell = 0; cell < 3; cell++) {
            DUE.is("read greatest " + cell, x.read(cell, 9, 10000, 110000, 500), 0);
            DUE.is("read least " + cell, x.read(cell, 0, 0, 50000, -300), 0);
            for (int i = 18; i >= 1; i--) {
                DUE.is("read before the others " + i, x.read(cell, i % 10, 10 * i, 60000 + i, i), 1);
            }
            DUE.is("read full " + cell, x.read(cell, 0, 5, 100000, 0), Due.FULL);
            DUE.is("read full, time taken " + cell, x.read(cell, 0, 50, 100000, 0), Due.IMPOSSIBLE);
            DUE.is("read full, out of range " + cell, x.read(cell, 0, 50, 100000, 501), Due.INVALID);
            DUE.is("read count " + cell, x.count(1 + cell), 20);
            for (int i = 1; i <= 18; i++) {
                DUE.is("read time " + i, x.reading(cell, i, 0), 10 * i);
                DUE.is("read pressure " + i, x.reading(cell, i, 1), 60000 + i);
                DUE.is("read temperature " + i, x.reading(cell, i, 2), i);
                DUE.is("read point " + i, x.reading(cell, i, 3), i % 10);
            }
        }
        DUE.is("base beside full cells", x.base(60, 100000, 0), 1);
    }

    /** Promise 5. */
    private static void drop() {
        BaroRuns x = new BaroRuns();
        DUE.is("drop of no base reading", x.drop(-1, 0), Due.INVALID);
        for (int i = 0; i < 4; i++) {
            x.base(i, 100000 + i, i);
            x.read(1, i, i, 90000 + i, -i);
        }
        DUE.is("drop cell below", x.drop(-2, 0), Due.INVALID);
        DUE.is("drop cell above", x.drop(3, 0), Due.INVALID);
        DUE.is("drop reading below", x.drop(1, -1), Due.INVALID);
        DUE.is("drop reading above", x.drop(1, 4), Due.INVALID);
        DUE.is("drop in an empty cell", x.drop(0, 0), Due.INVALID);
        DUE.is("drop base in the middle", x.drop(-1, 1), 3);
        DUE.is("base number 1 is now", x.reading(-1, 1, 1), 100002);
        DUE.is("base number 2 is now", x.reading(-1, 2, 2), 3);
        DUE.is("base number 3 is gone", x.reading(-1, 3, 0), Due.INVALID);
        DUE.is("cell stays", x.count(2), 4);
        DUE.is("drop first of the cell", x.drop(1, 0), 3);
        DUE.is("cell number 0 is now", x.reading(1, 0, 3), 1);
        DUE.is("drop last of the cell", x.drop(1, 2), 2);
        DUE.is("cell number 1 is now", x.reading(1, 1, 1), 90002);
        DUE.is("drop", x.drop(1, 0), 1);
        DUE.is("drop the only one", x.drop(1, 0), 0);
        DUE.is("drop behind the last", x.drop(1, 0), Due.INVALID);
        DUE.is("time is free again", x.read(1, 0, 2, 90000, 0), 0);
        DUE.is("base stays", x.count(0), 3);
    }

    /** Promise 6. */
    private static void reading() {
        BaroRuns x = new BaroRuns();
        x.base(0, 100000, -20);
        x.base(100, 100000, 0);
        x.read(2, 7, 40, 99000, -30);
        DUE.is("time", x.reading(2, 0, 0), 40);
        DUE.is("pressure", x.reading(2, 0, 1), 99000);
        DUE.is("temperature", x.reading(2, 0, 2), -30);
        DUE.is("point", x.reading(2, 0, 3), 7);
        DUE.is("gust", x.reading(2, 0, 4), 0);
        DUE.is("good", x.reading(2, 0, 5), 1);
        DUE.is("what below", x.reading(2, 0, -1), Due.INVALID);
        DUE.is("what above", x.reading(2, 0, 6), Due.INVALID);
        DUE.is("base what below", x.reading(-1, 0, -1), Due.INVALID);
        DUE.is("base what above", x.reading(-1, 0, 6), Due.INVALID);
        DUE.is("cell below", x.reading(-2, 0, 0), Due.INVALID);
        DUE.is("cell above", x.reading(3, 0, 0), Due.INVALID);
        DUE.is("number below", x.reading(2, -1, 0), Due.INVALID);
        DUE.is("number above", x.reading(2, 1, 0), Due.INVALID);
        DUE.is("greatest number", x.reading(2, Integer.MAX_VALUE, 0), Due.INVALID);
        DUE.is("base time", x.reading(-1, 1, 0), 100);
        DUE.is("base pressure", x.reading(-1, 1, 1), 100000);
        DUE.is("base temperature", x.reading(-1, 0, 2), -20);
        for (int what = 3; what <= 5; what++) {
            DUE.is("base has none of " + what, x.reading(-1, 1, what), Due.MISSING);
            DUE.is("no base reading for " + what, x.reading(-1, 2, what), Due.INVALID);
        }
    }

    /** Three readings of cell 0 with these pressures; what the middle one is. */
    private static int middleGust(int limit, int before, int middle, int behind) {
        BaroRuns x = new BaroRuns();
        x.set(1, limit);
        x.read(0, 1, 10, before, 0);
        x.read(0, 1, 20, middle, 0);
        x.read(0, 1, 30, behind, 0);
        DUE.is("the first is no gust", x.reading(0, 0, 4), 0);
        DUE.is("the last is no gust", x.reading(0, 2, 4), 0);
        DUE.is("no base, so none is good", x.count(13), 0);
        DUE.is("as counted", x.count(4), x.reading(0, 1, 4));
        return x.reading(0, 1, 4);
    }

    /** Promises 6 and 7: gusts. */
    private static void gusts() {
        DUE.is("above both, just the limit", middleGust(60, 90000, 90060, 90000), 0);
        DUE.is("above both, more", middleGust(60, 90000, 90061, 90000), 1);
        DUE.is("above both, one just the limit", middleGust(60, 90000, 90061, 90001), 0);
        DUE.is("above both, the other just the limit", middleGust(60, 90001, 90061, 90000), 0);
        DUE.is("below both, just the limit", middleGust(60, 90000, 89940, 90000), 0);
        DUE.is("below both, more", middleGust(60, 90000, 89939, 90000), 1);
        DUE.is("below both, one just the limit", middleGust(60, 89999, 89939, 90000), 0);
        DUE.is("below both, the other just the limit", middleGust(60, 90000, 89939, 89999), 0);
        DUE.is("between both", middleGust(60, 90000, 95000, 100000), 0);
        DUE.is("between both, falling", middleGust(60, 100000, 95000, 90000), 0);
        DUE.is("limit 1", middleGust(1, 90000, 90002, 90000), 1);
        DUE.is("limit 1, just it", middleGust(1, 90000, 90001, 90000), 0);
        DUE.is("limit 5000", middleGust(5000, 90000, 95001, 90000), 1);
        DUE.is("limit 5000, just it", middleGust(5000, 90000, 95000, 90000), 0);

        BaroRuns x = new BaroRuns();
        x.base(0, 100000, 0);
        x.base(50, 100000, 0);
        int[] pressures = {99000, 99500, 99000, 99500, 99000, 99500};
        for (int i = 0; i < pressures.length; i++) {
            x.read(1, 0, 15 * i, pressures[i], 0);
        }
        for (int i = 0; i < pressures.length; i++) {
            DUE.is("neighbours may be gusts, too " + i, x.reading(1, i, 4), i == 0 || i == 5 ? 0 : 1);
            DUE.is("good is no gust, in the time of the base " + i, x.reading(1, i, 5), i == 0 ? 1 : 0);
        }
        DUE.is("gusts of all cells", x.count(4), 4);
        DUE.is("good ones of all cells", x.count(13), 1);
        x.set(1, 500);
        DUE.is("gusts with a wider limit", x.count(4), 0);
        DUE.is("good ones with a wider limit", x.count(13), 4);

        BaroRuns cells = new BaroRuns();
        cells.base(0, 100000, 0);
        cells.base(50, 100000, 0);
        for (int cell = 0; cell < 3; cell++) {
            cells.read(cell, 0, 10, 99000, 0);
            cells.read(cell, 1, 20, 99500, 0);
            cells.read(cell, 0, 30, 99000, 0);
            DUE.is("gusts of the cells up to " + cell, cells.count(4), cell + 1);
            DUE.is("loops of the cells up to " + cell, cells.count(5), cell + 1);
            DUE.is("good ones of the cells up to " + cell, cells.count(13), 2 * cell + 2);
        }
    }

    /** Promise 7. */
    private static void count() {
        BaroRuns x = new BaroRuns();
        DUE.is("count(-1)", x.count(-1), Due.INVALID);
        DUE.is("count(14)", x.count(14), Due.INVALID);
        x.base(0, 100000, 100);
        x.base(300, 100000, 150);
        x.base(1000, 100000, 101);
        x.read(0, 1, 10, 99000, 100);
        x.read(0, 2, 20, 98000, 100);
        x.read(0, 1, 30, 99000, 100);
        x.read(1, 2, 10, 99000, 100);
        x.read(1, 2, 20, 99100, 100);
        x.read(1, 3, 30, 99000, 100);
        x.read(2, 4, 1001, 99000, 100);
        x.set(0, -7);
        x.set(1, 61);
        x.set(2, 49);
        Due.typeAll(x, "bt1");
        // Cell 0: reading 1 is a gust, so point 2 has its height from cell 1 alone.
        same("counts", Due.counts(x), "3 3 3 1 2 1 2 3 5 3 -7 61 49 4");
    }

    /** Promise 8. */
    private static void undo() {
        BaroRuns x = new BaroRuns();
        DUE.is("undo of nothing", x.undo(), Due.IMPOSSIBLE);
        for (int i = 0; i < 7; i++) {
            x.base(i, 100000, 10 * i);
            DUE.is("states " + i, x.count(8), Math.min(i + 1, 5));
        }
        x.base(0, 100000, 0);
        x.base(-1, 0, 0);
        x.drop(0, 0);
        x.set(3, 0);
        x.read(9, 0, 0, 0, 0);
        DUE.is("errors leave the history", x.count(8), 5);
        for (int left = 4; left >= 0; left--) {
            DUE.is("undo", x.undo(), left);
            DUE.is("readings of the base", x.count(0), left + 2);
        }
        DUE.is("undo of nothing more", x.undo(), Due.IMPOSSIBLE);
        DUE.is("the rest stays", x.count(0), 2);
        DUE.is("with its values", x.reading(-1, 1, 2), 10);
    }

    private static void undoOfSettings() {
        BaroRuns x = new BaroRuns();
        for (int what = 0; what < 3; what++) {
            int first = x.count(10 + what);
            x.set(what, 100 + what);
            x.set(what, 200 + what);
            x.undo();
            DUE.is("setting " + what + " before the last", x.count(10 + what), 100 + what);
            x.undo();
            DUE.is("setting " + what + " at first", x.count(10 + what), first);
        }
    }

    private static void undoOfAllChanges() {
        BaroRuns x = new BaroRuns();
        x.base(0, 100000, 100);
        x.base(100, 100000, 100);
        x.read(2, 5, 50, 99000, 100);
        String before = Due.counts(x);
        x.set(0, 1000);
        DUE.is("raised", x.raw(2, 0), 84394);
        x.drop(2, 0);
        x.drop(-1, 0);
        Due.typeAll(x, "c0@1t5p99000c0;");
        x.enter();
        DUE.is("undo of enter", x.undo(), 4);
        DUE.is("the text stays", x.count(9), 15);
        x.clearText();
        DUE.is("cell 0 is empty again", x.count(1), 0);
        DUE.is("undo of drop of the base", x.undo(), 3);
        DUE.is("undo of drop of the cell", x.undo(), 2);
        DUE.is("back with its height", x.raw(2, 0), 84394);
        DUE.is("back with its point", x.reading(2, 0, 3), 5);
        DUE.is("undo of set", x.undo(), 1);
        DUE.is("height as before", x.raw(2, 0), 83394);
        same("as before but the history", Due.counts(x), before.replaceFirst("1 3 0 0 60", "1 1 0 0 60"));
        DUE.is("a change after undo", x.set(2, 50), 50);
        DUE.is("is kept", x.count(8), 2);
        DUE.is("and undone", x.undo(), 1);
        x.undo();
        DUE.is("the first reading of the cell is undone", x.count(3), 0);
        DUE.is("text and undo", x.type(65), 1);
        DUE.is("no state to restore", x.undo(), Due.IMPOSSIBLE);
    }

    public static void main(String[] args) {
        newObject();
        settings();
        base();
        read();
        drop();
        reading();
        gusts();
        count();
        undo();
        undoOfSettings();
        undoOfAllChanges();
        DUE.end();
    }
}
