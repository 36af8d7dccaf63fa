import java.util.ArrayList;
import java.util.List;
import java.util.TreeMap;
import java.util.regex.Matcher;
import java.util.regex.Pattern;

/** The document a second time, worked out anew for each question and in the words of the document. */
final class Model {
    private static final int[] LEAST = {-500000, 1, 1};
    private static final int[] GREATEST = {9000000, 5000, 500};
    private static final Pattern FORM =
        Pattern.compile("(?:b|c([0-9])@([0-9]))t([0-9]{1,5})p([0-9]{1,6})c(-?[0-9]{1,3});");

    record Reading(int time, int pressure, int temperature, int point) { }

    record Loop(Reading begin, Reading end) {
        int minutes() {
            return end.time - begin.time;
        }
    }

    record Fault(int position, int reason) { }

    /** Track 0 is the base, the others are the cells. */
    private static final class State {
        final List<TreeMap<Integer, Reading>> tracks = new ArrayList<>();
        final int[] settings;

        State() {
            for (int i = 0; i < 4; i++) {
                tracks.add(new TreeMap<>());
            }
            settings = new int[] {0, 60, 50};
        }

        State(State other) {
            for (TreeMap<Integer, Reading> track : other.tracks) {
                tracks.add(new TreeMap<>(track));
            }
            settings = other.settings.clone();
        }
    }

    private State now = new State();
    private final List<State> history = new ArrayList<>();
    private String text = "";

    private static boolean out(int value, int least, int greatest) {
        return value < least || value > greatest;
    }

    private static boolean outOfRange(int time, int pressure, int temperature) {
        return out(time, 0, 10000) || out(pressure, 50000, 110000) || out(temperature, -300, 500);
    }

    private static int room(int track) {
        return track == 0 ? 12 : 20;
    }

    private List<Reading> readings(int cell) {
        return new ArrayList<>(now.tracks.get(cell + 1).values());
    }

    private void record() {
        history.add(new State(now));
        if (history.size() == 6) {
            history.remove(0);
        }
    }

    // ---- readings

    int set(int what, int value) {
        if (out(what, 0, 2) || out(value, LEAST[what], GREATEST[what])) {
            return Due.INVALID;
        }
        record();
        int previous = now.settings[what];
        now.settings[what] = value;
        return previous;
    }

    int base(int time, int pressure, int temperature) {
        return outOfRange(time, pressure, temperature)
            ? Due.INVALID : take(0, new Reading(time, pressure, temperature, 0));
    }

    int read(int cell, int point, int time, int pressure, int temperature) {
        return out(cell, 0, 2) || out(point, 0, 9) || outOfRange(time, pressure, temperature)
            ? Due.INVALID : take(cell + 1, new Reading(time, pressure, temperature, point));
    }

    private int take(int track, Reading reading) {
        TreeMap<Integer, Reading> there = now.tracks.get(track);
        if (there.containsKey(reading.time)) {
            return Due.IMPOSSIBLE;
        }
        if (there.size() == room(track)) {
            return Due.FULL;
        }
        record();
        now.tracks.get(track).put(reading.time, reading);
        return now.tracks.get(track).headMap(reading.time).size();
    }

    private boolean lacks(int cell, int reading) {
        return out(cell, -1, 2) || out(reading, 0, now.tracks.get(cell + 1).size() - 1);
    }

    private boolean lacksInCell(int cell, int reading) {
        return cell == -1 || lacks(cell, reading);
    }

    int drop(int cell, int reading) {
        if (lacks(cell, reading)) {
            return Due.INVALID;
        }
        record();
        now.tracks.get(cell + 1).remove(readings(cell).get(reading).time);
        return now.tracks.get(cell + 1).size();
    }

    int reading(int cell, int reading, int what) {
        if (lacks(cell, reading) || out(what, 0, 5)) {
            return Due.INVALID;
        }
        Reading it = readings(cell).get(reading);
        if (cell == -1 && what >= 3) {
            return Due.MISSING;
        }
        return switch (what) {
            case 0 -> it.time;
            case 1 -> it.pressure;
            case 2 -> it.temperature;
            case 3 -> it.point;
            case 4 -> isGust(cell, it) ? 1 : 0;
            default -> goods(cell).contains(it) ? 1 : 0;
        };
    }

    int count(int what) {
        int sum = 0;
        switch (what) {
            case 0: case 1: case 2: case 3:
                return now.tracks.get(what).size();
            case 4:
                for (int cell = 0; cell < 3; cell++) {
                    for (Reading it : readings(cell)) {
                        sum += isGust(cell, it) ? 1 : 0;
                    }
                }
                return sum;
            case 5:
                return loopsOf(0).size() + loopsOf(1).size() + loopsOf(2).size();
            case 6:
                return stepEnds().size();
            case 7:
                for (int point = 0; point < 10; point++) {
                    sum += heightsAt(point).isEmpty() ? 0 : 1;
                }
                return sum;
            case 8:
                return history.size();
            case 9:
                return text.length();
            case 10: case 11: case 12:
                return now.settings[what - 10];
            case 13:
                return goods(0).size() + goods(1).size() + goods(2).size();
            default:
                return Due.INVALID;
        }
    }

    int undo() {
        if (history.isEmpty()) {
            return Due.IMPOSSIBLE;
        }
        now = history.remove(history.size() - 1);
        return history.size();
    }

    // ---- base and raw heights

    private Long baseAt(int time, boolean pressure) {
        Reading before = null;
        for (Reading it : readings(-1)) {
            long value = pressure ? it.pressure : it.temperature;
            if (it.time == time) {
                return value;
            }
            if (before != null && before.time < time && time < it.time) {
                long first = pressure ? before.pressure : before.temperature;
                return first + Math.floorDiv((value - first) * (time - before.time), (long) it.time - before.time);
            }
            before = it;
        }
        return null;
    }

    int baseAt(int time, int what) {
        if (out(time, 0, 10000) || out(what, 0, 1)) {
            return Due.INVALID;
        }
        Long value = baseAt(time, what == 0);
        return value == null ? Due.MISSING : (int) (long) value;
    }

    private List<Integer> stepEnds() {
        List<Reading> base = readings(-1);
        List<Integer> ends = new ArrayList<>();
        for (int i = 1; i < base.size(); i++) {
            if (Math.abs(base.get(i).temperature - base.get(i - 1).temperature) >= now.settings[2]) {
                ends.add(i);
            }
        }
        return ends;
    }

    int step(int index) {
        List<Integer> ends = stepEnds();
        return out(index, 0, ends.size() - 1) ? Due.INVALID : ends.get(index);
    }

    private long formula(long a, long b, long c, long p) {
        long product = 2930L * (2732 + Math.floorDiv(a + c, 2L)) * (b - p);
        return now.settings[0] + Math.floorDiv(product, Math.floorDiv(b + p, 2L));
    }

    private Long rawOf(int time, int pressure, int temperature) {
        Long b = baseAt(time, true);
        Long a = baseAt(time, false);
        return b == null || a == null ? null : Long.valueOf(formula(a, b, temperature, pressure));
    }

    private Long rawOf(Reading it) {
        return rawOf(it.time, it.pressure, it.temperature);
    }

    int raw(int cell, int reading) {
        if (lacksInCell(cell, reading)) {
            return Due.INVALID;
        }
        Long raw = rawOf(readings(cell).get(reading));
        return raw == null ? Due.MISSING : (int) (long) raw;
    }

    int would(int time, int pressure, int temperature) {
        if (outOfRange(time, pressure, temperature)) {
            return Due.INVALID;
        }
        Long raw = rawOf(time, pressure, temperature);
        return raw == null ? Due.MISSING : (int) (long) raw;
    }

    int pressureFor(int time, int temperature, int height) {
        if (out(time, 0, 10000) || out(temperature, -300, 500) || out(height, -1000000, 10000000)) {
            return Due.INVALID;
        }
        Long b = baseAt(time, true);
        Long a = baseAt(time, false);
        for (int pressure = 110000; b != null && a != null && pressure >= 50000; pressure--) {
            if (formula(a, b, temperature, pressure) >= height) {
                return pressure;
            }
        }
        return Due.MISSING;
    }

    // ---- loops and heights

    private boolean isGust(int cell, Reading it) {
        var before = now.tracks.get(cell + 1).lowerEntry(it.time);
        var behind = now.tracks.get(cell + 1).higherEntry(it.time);
        if (before == null || behind == null) {
            return false;
        }
        int low = Math.min(before.getValue().pressure, behind.getValue().pressure);
        int high = Math.max(before.getValue().pressure, behind.getValue().pressure);
        return it.pressure > high + now.settings[1] || it.pressure < low - now.settings[1];
    }

    private List<Reading> goods(int cell) {
        List<Reading> goods = new ArrayList<>(readings(cell));
        goods.removeIf(it -> rawOf(it) == null || isGust(cell, it));
        return goods;
    }

    private List<Loop> loopsOf(int cell) {
        List<Loop> loops = new ArrayList<>();
        TreeMap<Integer, Reading> latest = new TreeMap<>();
        for (Reading it : goods(cell)) {
            Reading begin = latest.put(it.point, it);
            if (begin != null) {
                loops.add(new Loop(begin, it));
            }
        }
        return loops;
    }

    private long misclosure(Loop loop) {
        return rawOf(loop.end) - rawOf(loop.begin);
    }

    private Loop openLoopOf(int cell, Reading it) {
        Loop best = null;
        for (Loop loop : loopsOf(cell)) {
            boolean around = loop.begin.time <= it.time && it.time <= loop.end.time;
            if (around && (best == null || loop.minutes() < best.minutes())) {
                best = loop;
            }
        }
        return best;
    }

    private long correctedOf(int cell, Reading it) {
        Loop loop = openLoopOf(cell, it);
        long share = loop == null ? 0
            : Math.floorDiv(misclosure(loop) * (it.time - loop.begin.time), (long) loop.minutes());
        return rawOf(it) - share;
    }

    private List<Long> heightsAt(int point) {
        List<Long> heights = new ArrayList<>();
        for (int cell = 0; cell < 3; cell++) {
            for (Reading it : goods(cell)) {
                Loop loop = openLoopOf(cell, it);
                if (it.point == point && (loop == null || !loop.end.equals(it))) {
                    heights.add(correctedOf(cell, it));
                }
            }
        }
        return heights;
    }

    int loops(int cell) {
        return out(cell, 0, 2) ? Due.INVALID : loopsOf(cell).size();
    }

    int loop(int cell, int loop, int what) {
        if (out(cell, 0, 2) || out(loop, 0, loopsOf(cell).size() - 1) || out(what, 0, 4)) {
            return Due.INVALID;
        }
        Loop it = loopsOf(cell).get(loop);
        return switch (what) {
            case 0 -> readings(cell).indexOf(it.begin);
            case 1 -> readings(cell).indexOf(it.end);
            case 2 -> (int) misclosure(it);
            case 3 -> (int) secondWay(cell, it);
            default -> it.minutes();
        };
    }

    private long secondWay(int cell, Loop loop) {
        long sum = 0;
        Reading before = null;
        for (Reading it : goods(cell)) {
            if (it.time > loop.begin.time && it.time <= loop.end.time) {
                sum += rawOf(it) - rawOf(before);
            }
            before = it;
        }
        return sum;
    }

    int openLoop(int cell, int reading) {
        if (lacksInCell(cell, reading)) {
            return Due.INVALID;
        }
        Reading it = readings(cell).get(reading);
        Loop loop = openLoopOf(cell, it);
        return loop == null || !goods(cell).contains(it) ? Due.MISSING : loopsOf(cell).indexOf(loop);
    }

    int corrected(int cell, int reading) {
        if (lacksInCell(cell, reading)) {
            return Due.INVALID;
        }
        Reading it = readings(cell).get(reading);
        return goods(cell).contains(it) ? (int) correctedOf(cell, it) : Due.MISSING;
    }

    int point(int point, int what) {
        if (out(point, 0, 9) || out(what, 0, 2)) {
            return Due.INVALID;
        }
        List<Long> heights = heightsAt(point);
        if (what == 2) {
            return heights.size();
        }
        if (heights.isEmpty()) {
            return Due.MISSING;
        }
        var all = heights.stream().mapToLong(Long::longValue).summaryStatistics();
        return (int) (what == 0 ? Math.floorDiv(all.getSum(), all.getCount()) : all.getMax() - all.getMin());
    }

    int worst(int what) {
        if (out(what, 0, 1)) {
            return Due.INVALID;
        }
        int[] worst = {Due.MISSING, Due.MISSING};
        long size = -1;
        for (int cell = 0; cell < 3; cell++) {
            List<Loop> loops = loopsOf(cell);
            for (int i = 0; i < loops.size(); i++) {
                if (Math.abs(misclosure(loops.get(i))) > size) {
                    size = Math.abs(misclosure(loops.get(i)));
                    worst = new int[] {cell, i};
                }
            }
        }
        return worst[what];
    }

    // ---- texts

    int type(int character) {
        if (out(character, 32, 126)) {
            return Due.INVALID;
        }
        if (text.length() == 100) {
            return Due.FULL;
        }
        text += (char) character;
        return text.length();
    }

    int clearText() {
        int length = text.length();
        text = "";
        return length;
    }

    /** Puts the readings of the text into the state, up to the fault, if there is one. */
    private Fault follow(State state) {
        Matcher form = FORM.matcher(text);
        for (int position = 0; position < text.length(); position = form.end()) {
            if (!form.region(position, text.length()).lookingAt()) {
                return new Fault(position, 1);
            }
            boolean ofBase = form.group(1) == null;
            int track = ofBase ? 0 : Integer.parseInt(form.group(1)) + 1;
            int point = ofBase ? 0 : Integer.parseInt(form.group(2));
            int time = Integer.parseInt(form.group(3));
            int pressure = Integer.parseInt(form.group(4));
            int temperature = Integer.parseInt(form.group(5));
            if (track > 3 || outOfRange(time, pressure, temperature)) {
                return new Fault(position, 2);
            }
            if (state.tracks.get(track).containsKey(time)) {
                return new Fault(position, 3);
            }
            if (state.tracks.get(track).size() == room(track)) {
                return new Fault(position, 4);
            }
            state.tracks.get(track).put(time, new Reading(time, pressure, temperature, point));
        }
        return null;
    }

    int fault(int what) {
        if (out(what, 0, 1)) {
            return Due.INVALID;
        }
        Fault fault = follow(new State(now));
        if (fault == null) {
            return Due.MISSING;
        }
        return what == 0 ? fault.position : fault.reason;
    }

    int enter() {
        State next = new State(now);
        if (follow(next) != null) {
            return Due.IMPOSSIBLE;
        }
        record();
        now = next;
        return (int) text.chars().filter(c -> c == ';').count();
    }
}
