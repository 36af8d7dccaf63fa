/** Promises 9 to 13: baseAt, step, raw, would, pressureFor. */
public final class BaseTest {
    private static final Due DUE = new Due();

    /** A base of the pressure 100000 and the temperature 100 from the time 0 to 1000. */
    private static BaroRuns level() {
        BaroRuns x = new BaroRuns();
        x.base(0, 100000, 100);
        x.base(1000, 100000, 100);
        return x;
    }

    /** Promise 9. */
    private static void baseAt() {
        BaroRuns x = new BaroRuns();
        DUE.is("no base", x.baseAt(0, 0), Due.MISSING);
        DUE.is("no base, time below", x.baseAt(-1, 0), Due.INVALID);
        DUE.is("no base, time above", x.baseAt(10001, 0), Due.INVALID);
        DUE.is("no base, what below", x.baseAt(0, -1), Due.INVALID);
        DUE.is("no base, what above", x.baseAt(0, 2), Due.INVALID);
        x.base(3, 99999, -1);
        DUE.is("one reading, at it", x.baseAt(3, 0), 99999);
        DUE.is("one reading, its temperature", x.baseAt(3, 1), -1);
        DUE.is("one reading, before", x.baseAt(2, 1), Due.MISSING);
        DUE.is("one reading, behind", x.baseAt(4, 1), Due.MISSING);
        x.base(0, 100000, 0);
        x.base(9, 100000, 0);
        int[] pressures = {100000, 99999, 99999, 99999, 99999, 99999, 99999, 99999, 99999, 100000};
        int[] temperatures = {0, -1, -1, -1, -1, -1, -1, -1, -1, 0};
        for (int time = 0; time <= 9; time++) {
            DUE.is("pressure rounded down at " + time, x.baseAt(time, 0), pressures[time]);
            DUE.is("temperature rounded down at " + time, x.baseAt(time, 1), temperatures[time]);
        }
        DUE.is("behind the last", x.baseAt(10, 0), Due.MISSING);
        BaroRuns wide = new BaroRuns();
        wide.base(0, 50000, -300);
        wide.base(10000, 110000, 500);
        DUE.is("wide, 1", wide.baseAt(1, 0), 50006);
        DUE.is("wide, 9999", wide.baseAt(9999, 0), 109994);
        DUE.is("wide, temperature at 9999", wide.baseAt(9999, 1), 499);
        DUE.is("wide, the last", wide.baseAt(10000, 0), 110000);
        wide.base(5000, 60000, 0);
        DUE.is("only the neighbours count", wide.baseAt(2500, 0), 55000);
        DUE.is("only the neighbours count behind", wide.baseAt(7500, 1), 250);
        wide.drop(-1, 0);
        DUE.is("dropped", wide.baseAt(2500, 0), Due.MISSING);
    }

    /** Promise 10, and the count of weather steps of promise 7. */
    private static void step() {
        BaroRuns x = new BaroRuns();
        DUE.is("no base", x.step(0), Due.INVALID);
        int[] temperatures = {0, 50, 1, -49, -98, 300};
        for (int i = 0; i < temperatures.length; i++) {
            x.base(10 * i, 100000, temperatures[i]);
        }
        DUE.is("first step, just the limit, rising", x.step(0), 1);
        DUE.is("second step, just the limit, falling", x.step(1), 3);
        DUE.is("third step", x.step(2), 5);
        DUE.is("no fourth step", x.step(3), Due.INVALID);
        DUE.is("step below", x.step(-1), Due.INVALID);
        DUE.is("least step", x.step(Integer.MIN_VALUE), Due.INVALID);
        DUE.is("steps", x.count(6), 3);
        x.set(2, 49);
        DUE.is("steps at 49", x.count(6), 5);
        x.set(2, 398);
        DUE.is("one step at 398", x.step(0), 5);
        x.set(2, 399);
        DUE.is("no step at 399", x.step(0), Due.INVALID);
        x.drop(-1, 4);
        DUE.is("no step across", x.count(6), 0);
        x.set(2, 349);
        DUE.is("a step across", x.step(0), 4);
    }

    private static int rawOf(int b, int a, int p, int c, int height) {
        BaroRuns x = new BaroRuns();
        x.set(0, height);
        x.base(7, b, a);
        x.read(1, 4, 7, p, c);
        DUE.is("would as raw", x.would(7, p, c), x.raw(1, 0));
        return x.raw(1, 0);
    }

    /** Promises 11 and 12: the formula. */
    private static void formula() {
        DUE.is("above", rawOf(100000, 100, 99000, 100, 0), 83394);
        DUE.is("below, rounded down", rawOf(100000, 100, 101000, 100, 0), -82565);
        DUE.is("level", rawOf(100000, 100, 100000, 100, 123), 123);
        DUE.is("odd sum of temperatures below 0", rawOf(100000, -101, 99000, 0, 0), 78948);
        DUE.is("odd sum of temperatures, -1", rawOf(100000, -1, 99000, 0, 0), 80420);
        DUE.is("odd sum of pressures", rawOf(100001, 0, 99000, 0, 0), 80530);
        DUE.is("lowest", rawOf(50000, -300, 110000, -300, -500000), -5844320);
        DUE.is("highest", rawOf(110000, 500, 50000, 500, 9000000), 16102320);
    }

    /** Promise 11. */
    private static void raw() {
        BaroRuns x = level();
        DUE.is("no reading", x.raw(0, 0), Due.INVALID);
        x.read(0, 1, 10, 99000, 100);
        x.read(0, 1, 20, 98000, 100);
        x.read(0, 1, 30, 99000, 100);
        x.read(0, 1, 1001, 99000, 100);
        DUE.is("cell below", x.raw(-1, 0), Due.INVALID);
        DUE.is("cell above", x.raw(3, 0), Due.INVALID);
        DUE.is("reading below", x.raw(0, -1), Due.INVALID);
        DUE.is("reading above", x.raw(0, 4), Due.INVALID);
        DUE.is("a gust has one", x.raw(0, 1), 167631);
        DUE.is("behind the base", x.raw(0, 3), Due.MISSING);
        x.set(0, -500000);
        DUE.is("height of the base", x.raw(0, 0), 83394 - 500000);
        x.base(1001, 101000, 100);
        DUE.is("the base at this time now", x.raw(0, 3), rawOf(101000, 100, 99000, 100, -500000));
        x.undo();
        DUE.is("no longer", x.raw(0, 3), Due.MISSING);
        x.drop(-1, 0);
        DUE.is("before the base", x.raw(0, 0), Due.MISSING);
        BaroRuns slope = new BaroRuns();
        slope.base(0, 100000, 0);
        slope.base(4, 100400, 200);
        slope.read(2, 0, 2, 99000, 100);
        DUE.is("between two base readings", slope.raw(2, 0), rawOf(100200, 100, 99000, 100, 0));
    }

    /** Promise 12. */
    private static void would() {
        BaroRuns x = level();
        DUE.is("time below", x.would(-1, 99000, 100), Due.INVALID);
        DUE.is("time above", x.would(10001, 99000, 100), Due.INVALID);
        DUE.is("pressure below", x.would(0, 49999, 100), Due.INVALID);
        DUE.is("pressure above", x.would(0, 110001, 100), Due.INVALID);
        DUE.is("temperature below", x.would(0, 99000, -301), Due.INVALID);
        DUE.is("temperature above", x.would(0, 99000, 501), Due.INVALID);
        DUE.is("behind the base", x.would(1001, 99000, 100), Due.MISSING);
        DUE.is("behind the base, out of range", x.would(1001, 99000, 501), Due.INVALID);
        DUE.is("at its end", x.would(1000, 99000, 100), 83394);
        DUE.is("lowest pressure", x.would(0, 50000, 100), 5531840);
        DUE.is("highest pressure", x.would(500, 110000, 100), -790263);
        DUE.is("nothing taken", x.count(1) + x.count(2) + x.count(3), 0);
        DUE.is("no change", x.count(8), 2);
    }

    /** Promise 13. */
    private static void pressureFor() {
        BaroRuns x = level();
        DUE.is("time below", x.pressureFor(-1, 100, 0), Due.INVALID);
        DUE.is("time above", x.pressureFor(10001, 100, 0), Due.INVALID);
        DUE.is("temperature below", x.pressureFor(0, -301, 0), Due.INVALID);
        DUE.is("temperature above", x.pressureFor(0, 501, 0), Due.INVALID);
        DUE.is("height below", x.pressureFor(0, 100, -1000001), Due.INVALID);
        DUE.is("height above", x.pressureFor(0, 100, 10000001), Due.INVALID);
        DUE.is("behind the base", x.pressureFor(1001, 100, 0), Due.MISSING);
        DUE.is("behind the base, least height", x.pressureFor(1001, 100, -1000000), Due.MISSING);
        DUE.is("just this height", x.pressureFor(0, 100, 83394), 99000);
        DUE.is("one more", x.pressureFor(0, 100, 83395), 98999);
        DUE.is("level", x.pressureFor(1000, 100, 0), 100000);
        DUE.is("least height", x.pressureFor(0, 100, -1000000), 110000);
        DUE.is("just the highest pressure", x.pressureFor(0, 100, -790263), 110000);
        DUE.is("not quite the highest pressure", x.pressureFor(0, 100, -790262), 109999);
        DUE.is("just the lowest pressure", x.pressureFor(0, 100, 5531840), 50000);
        DUE.is("not the lowest pressure", x.pressureFor(0, 100, 5531841), Due.MISSING);
        DUE.is("greatest height", x.pressureFor(0, 100, 10000000), Due.MISSING);
        x.set(0, 9000000);
        DUE.is("all are higher", x.pressureFor(0, 100, -1000000), 110000);
        DUE.is("greatest height from a high base", x.pressureFor(0, 100, 10000000), 88633);
        for (int height = -900000; height < 10000000; height += 99991) {
            checkPressureFor(9000000, 500, 37, height);
        }
        for (int height = -1000000; height < 6000000; height += 70001) {
            checkPressureFor(-500000, 999, -300, height);
        }
    }

    private static void checkPressureFor(int baseHeight, int time, int temperature, int height) {
        BaroRuns x = level();
        x.set(0, baseHeight);
        int pressure = x.pressureFor(time, temperature, height);
        if (pressure == Due.MISSING) {
            DUE.is("not even the lowest " + height, x.would(time, 50000, temperature) < height ? 1 : 0, 1);
            return;
        }
        DUE.is("high enough " + height, x.would(time, pressure, temperature) >= height ? 1 : 0, 1);
        int next = x.would(time, pressure + 1, temperature);
        DUE.is("and the greatest " + height, pressure == 110000 || next < height ? 1 : 0, 1);
    }

    public static void main(String[] args) {
        baseAt();
        step();
        formula();
        raw();
        would();
        pressureFor();
        DUE.end();
    }
}
