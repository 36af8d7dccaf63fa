import java.util.ArrayList;
import java.util.List;

/** Promises 1 to 23: long runs of calls, the same ones on the class and on the model. */
public final class ModelTest {
    private static final int RUNS = 400;
    private static final int CALLS = 512;

    private final Due due = new Due();
    private final List<String> told = new ArrayList<>();
    private long seed;
    private BaroRuns x;
    private Model model;
    // How far times, points and pressures of one run lie apart: narrow runs meet more often.
    private int times;
    private int points;
    private int pressures;

    private int below(int bound) {
        seed = seed * 6364136223846793005L + 1442695040888963407L;
        return (int) Math.floorMod(seed >>> 33, (long) bound);
    }

    /** Mostly a number of the range, now and then one at its edges or behind them. */
    private int near(int least, int greatest) {
        return switch (below(40)) {
            case 0 -> least - 1;
            case 1 -> greatest + 1;
            case 2 -> least;
            case 3 -> greatest;
            case 4 -> below(2) == 0 ? Integer.MIN_VALUE : Integer.MAX_VALUE;
            default -> least + below(greatest - least + 1);
        };
    }

    private int time() {
        return below(30) == 0 ? near(0, 10000) : below(times) * (10000 / times);
    }

    private int pressure() {
        return below(30) == 0 ? near(50000, 110000) : 95000 + below(pressures);
    }

    private int temperature() {
        return below(20) == 0 ? near(-300, 500) : below(200) - 100;
    }

    private int point() {
        return below(40) == 0 ? near(0, 9) : below(points);
    }

    private void same(String name, int got, int want, int... arguments) {
        StringBuilder call = new StringBuilder(name).append('(');
        for (int i = 0; i < arguments.length; i++) {
            call.append(i == 0 ? "" : ", ").append(arguments[i]);
        }
        told.add(call.append(')').toString());
        due.is(call.toString(), got, want);
    }

    private void begin(int run) {
        seed = run * 7919L + 17;
        told.clear();
        x = new BaroRuns();
        model = new Model();
        times = 20 + below(4) * 40;
        points = 2 + below(8);
        pressures = new int[] {3, 80, 300, 12000}[below(4)];
    }

    private void change() {
        int cell = near(0, 2);
        int point = point();
        int time = time();
        int pressure = pressure();
        int temperature = temperature();
        int number = near(0, 8);
        switch (below(16)) {
            case 0, 1, 2 -> same("base", x.base(time, pressure, temperature),
                model.base(time, pressure, temperature), time, pressure, temperature);
            case 3, 4, 5, 6, 7, 8, 9 -> same("read", x.read(cell, point, time, pressure, temperature),
                model.read(cell, point, time, pressure, temperature), cell, point, time, pressure, temperature);
            case 10, 11 -> same("drop", x.drop(cell - 1, number), model.drop(cell - 1, number), cell - 1, number);
            case 12 -> same("undo", x.undo(), model.undo());
            case 13, 14 -> write();
            default -> {
                int what = near(0, 2);
                int value = what == 0 ? near(-500000, 9000000) : what == 1 ? near(1, 5000) : near(1, 500);
                same("set", x.set(what, value), model.set(what, value), what, value);
            }
        }
    }

    /** Types a few readings, sometimes with a slip, and mostly enters them. */
    private void write() {
        if (below(4) != 0) {
            same("clearText", x.clearText(), model.clearText());
        }
        StringBuilder text = new StringBuilder();
        for (int i = below(4); i > 0; i--) {
            text.append(below(3) == 0 ? "b" : "c" + (below(12) == 0 ? below(10) : below(3)) + "@" + below(points));
            text.append('t').append(below(15) == 0 ? near(0, 10000) : time());
            text.append('p').append(pressure()).append('c').append(temperature()).append(';');
        }
        if (below(5) == 0 && text.length() > 0) {
            text.setCharAt(below(text.length()), "0123456789bct@p-; ".charAt(below(18)));
        }
        for (int i = 0; i < text.length(); i++) {
            same("type", x.type(text.charAt(i)), model.type(text.charAt(i)), text.charAt(i));
        }
        same("fault", x.fault(0), model.fault(0), 0);
        same("fault", x.fault(1), model.fault(1), 1);
        same("enter", x.enter(), model.enter());
    }

    private void question() {
        int cell = near(0, 2);
        int number = near(0, below(2) == 0 ? 5 : 19);
        int time = time();
        int pressure = pressure();
        int temperature = temperature();
        switch (below(17)) {
            case 0, 1 -> {
                int place = cell - below(2);
                int what = near(0, 5);
                same("reading", x.reading(place, number, what), model.reading(place, number, what),
                    place, number, what);
            }
            case 2, 3, 4 -> {
                int what = near(0, 13);
                same("count", x.count(what), model.count(what), what);
            }
            case 5 -> {
                int what = near(0, 1);
                same("baseAt", x.baseAt(time, what), model.baseAt(time, what), time, what);
            }
            case 6 -> same("step", x.step(number), model.step(number), number);
            case 7 -> same("raw", x.raw(cell, number), model.raw(cell, number), cell, number);
            case 8 -> same("would", x.would(time, pressure, temperature),
                model.would(time, pressure, temperature), time, pressure, temperature);
            case 9 -> {
                int height = below(2) == 0 ? near(-1000000, 10000000) : below(400000);
                same("pressureFor", x.pressureFor(time, temperature, height),
                    model.pressureFor(time, temperature, height), time, temperature, height);
            }
            case 10 -> same("loops", x.loops(cell), model.loops(cell), cell);
            case 11 -> {
                int what = near(0, 4);
                same("loop", x.loop(cell, number / 2, what), model.loop(cell, number / 2, what),
                    cell, number / 2, what);
            }
            case 12 -> same("openLoop", x.openLoop(cell, number), model.openLoop(cell, number), cell, number);
            case 13 -> same("corrected", x.corrected(cell, number), model.corrected(cell, number), cell, number);
            case 14 -> {
                int point = point();
                int what = near(0, 2);
                same("point", x.point(point, what), model.point(point, what), point, what);
            }
            case 15 -> {
                int what = near(0, 1);
                same("worst", x.worst(what), model.worst(what), what);
            }
            default -> {
                int character = near(32, 126);
                if (below(10) == 0) {
                    same("type", x.type(character), model.type(character), character);
                }
                int what = near(0, 1);
                same("fault", x.fault(what), model.fault(what), what);
            }
        }
    }

    private void run(int number) {
        begin(number);
        while (told.size() < CALLS - 100 && due.fine()) {
            // The first calls fill the tracks, the later ones mostly ask.
            if (below(told.size() < 60 ? 2 : 5) == 0) {
                change();
            } else {
                question();
            }
        }
        if (!due.fine()) {
            System.out.println("run " + number + ": " + String.join("; ", told));
        }
    }

    public static void main(String[] args) {
        ModelTest test = new ModelTest();
        for (int number = 0; number < RUNS && test.due.fine(); number++) {
            test.run(number);
        }
        test.due.end();
    }
}
