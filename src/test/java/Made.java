/** Objects for the tests, made in the same way again and again, and what can be seen of an object. */
final class Made {
    private Made() {
    }

    /** A base of the pressure 100000 and the temperature 100 from the time 0 to 1000, with no weather. */
    static BaroRuns level() {
        BaroRuns x = new BaroRuns();
        x.base(0, 100000, 100);
        x.base(1000, 100000, 100);
        return x;
    }

    /** The same, with a gust limit that the differences of most tests keep below. */
    static BaroRuns quiet() {
        BaroRuns x = level();
        x.set(1, 5000);
        return x;
    }

    /** Readings of a cell at the temperature 100, in the order of the rows. */
    static BaroRuns reads(BaroRuns x, int cell, int[] times, int[] points, int[] pressures) {
        for (int i = 0; i < times.length; i++) {
            x.read(cell, points[i], times[i], pressures[i], 100);
        }
        return x;
    }

    /** Readings of the base at the times 0, 10, 20 and so on. */
    static BaroRuns bases(int number) {
        BaroRuns x = new BaroRuns();
        for (int i = 0; i < number; i++) {
            x.base(10 * i, 100000 + i, i);
        }
        return x;
    }

    /** Readings of a cell at the times 0, 10, 20 and so on, at the points 0 to 9. */
    static BaroRuns cells(int cell, int number) {
        BaroRuns x = new BaroRuns();
        for (int i = 0; i < number; i++) {
            x.read(cell, i % 10, 10 * i, 99000 + i, i);
        }
        return x;
    }

    /** Some of everything: steps, gusts, loops, readings without a raw height, settings, history, text. */
    static BaroRuns busy() {
        BaroRuns x = new BaroRuns();
        x.set(1, 500);
        x.base(0, 100000, 100);
        x.base(500, 100400, 180);
        x.base(1000, 100000, 120);
        reads(x, 0, new int[] {0, 10, 20, 30, 1001}, new int[] {1, 2, 1, 2, 3},
            new int[] {99000, 99100, 99200, 99300, 99300});
        reads(x, 1, new int[] {5, 15, 25, 35}, new int[] {4, 4, 4, 5}, new int[] {99000, 98000, 99020, 99030});
        reads(x, 2, new int[] {40, 50}, new int[] {6, 6}, new int[] {97000, 97007});
        x.set(0, 1234);
        x.set(2, 40);
        Due.typeAll(x, "bt7p99000c7;x");
        return x;
    }

    static BaroRuns typed(BaroRuns x, String text) {
        Due.typeAll(x, text);
        return x;
    }

    /** All that can be seen of an object, the states of its history last: they are undone for it. */
    static String picture(BaroRuns x) {
        StringBuilder all = new StringBuilder(Due.counts(x));
        for (int cell = -1; cell <= 2; cell++) {
            int readings = x.count(cell + 1);
            for (int reading = 0; reading < readings; reading++) {
                all.append(" | ").append(cell);
                for (int what = 0; what <= (cell == -1 ? 2 : 3); what++) {
                    all.append(' ').append(x.reading(cell, reading, what));
                }
            }
        }
        all.append(" | text ").append(x.fault(0)).append(' ').append(x.fault(1));
        for (int left = x.undo(); left >= 0; left = x.undo()) {
            all.append(" | before ").append(left);
            for (int what : new int[] {0, 1, 2, 3, 10, 11, 12}) {
                all.append(' ').append(x.count(what));
            }
        }
        return all.toString();
    }
}
