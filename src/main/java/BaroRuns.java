/**
 * Heights by air pressure: a base and three cells that rove from point to point, with gusts, loops,
 * drift, heights of points, weather steps and runs as texts.
 */
public final class BaroRuns {
    public static final int INVALID_ARGUMENT = -2000000001;
    public static final int NOT_POSSIBLE = -2000000002;
    public static final int LIMIT_REACHED = -2000000003;
    public static final int NOT_FOUND = -2000000004;

    private static final int BASE = -1;
    private static final int CELLS = 3;
    private static final int BASE_ROOM = 12;
    private static final int CELL_ROOM = 20;
    private static final int POINTS = 10;
    private static final int HISTORY_ROOM = 5;
    private static final int TEXT_ROOM = 100;

    private static final int LEAST_PRESSURE = 50000;
    private static final int GREATEST_PRESSURE = 110000;

    // The numbers that a reading holds, numbered as the call reading numbers them.
    private static final int TIME = 0;
    private static final int PRESSURE = 1;
    private static final int TEMPERATURE = 2;
    private static final int POINT = 3;
    private static final int FIELDS = 4;

    private static final int BASE_HEIGHT = 0;
    private static final int GUST_LIMIT = 1;
    private static final int STEP_LIMIT = 2;

    private static final int NO_FAULT = 0;
    private static final int FAULT_OF_FORM = 1;
    private static final int FAULT_OF_RANGE = 2;
    private static final int FAULT_OF_TIME = 3;
    private static final int FAULT_OF_ROOM = 4;

    // An index, a digit or a fault that is not there.
    private static final int NONE = -1;

    private final State now = new State();
    private final State trial = new State();
    private final History history = new History();
    private final Survey firstSurvey = new Survey();
    private final Survey secondSurvey = new Survey();
    private final Survey thirdSurvey = new Survey();
    private final PointSum pointSum = new PointSum();
    private final Text text = new Text();
    private boolean stale = true;

    public BaroRuns() {
    }

    // ---- readings

    public int set(int what, int value) {
        if (!isSetting(what, value)) {
            return INVALID_ARGUMENT;
        }
        record();
        int previous = now.setting(what);
        now.putSetting(what, value);
        return previous;
    }

    public int base(int time, int pressure, int temperature) {
        if (!isReading(time, pressure, temperature)) {
            return INVALID_ARGUMENT;
        }
        return take(BASE, 0, time, pressure, temperature);
    }

    public int read(int cell, int point, int time, int pressure, int temperature) {
        if (!isCell(cell) || !isPoint(point) || !isReading(time, pressure, temperature)) {
            return INVALID_ARGUMENT;
        }
        return take(cell, point, time, pressure, temperature);
    }

    public int drop(int cell, int reading) {
        if (!isReadingOf(cell, reading)) {
            return INVALID_ARGUMENT;
        }
        record();
        Track track = now.track(cell);
        track.remove(reading);
        return track.size;
    }

    public int reading(int cell, int reading, int what) {
        if (!isReadingOf(cell, reading) || !within(what, 0, 5)) {
            return INVALID_ARGUMENT;
        }
        if (cell == BASE && what >= POINT) {
            return NOT_FOUND;
        }
        refresh();
        switch (what) {
            case 4:
                return surveyOf(cell).isGust(reading) ? 1 : 0;
            case 5:
                return surveyOf(cell).isGood(reading) ? 1 : 0;
            default:
                return now.track(cell).value(reading, what);
        }
    }

    public int count(int what) {
        refresh();
        switch (what) {
            case 0:
            case 1:
            case 2:
            case 3:
                return now.track(what - 1).size;
            case 4:
                return firstSurvey.gustCount + secondSurvey.gustCount + thirdSurvey.gustCount;
            case 5:
                return firstSurvey.loopCount + secondSurvey.loopCount + thirdSurvey.loopCount;
            case 6:
                return now.steps();
            case 7:
                return pointsWithHeight();
            case 8:
                return history.size;
            case 9:
                return text.length;
            case 10:
            case 11:
            case 12:
                return now.setting(what - 10);
            case 13:
                return firstSurvey.goodCount + secondSurvey.goodCount + thirdSurvey.goodCount;
            default:
                return INVALID_ARGUMENT;
        }
    }

    public int undo() {
        if (history.size == 0) {
            return NOT_POSSIBLE;
        }
        history.giveBack(now);
        stale = true;
        return history.size;
    }

    // ---- base and raw heights

    public int baseAt(int time, int what) {
        if (!isTime(time) || !within(what, 0, 1)) {
            return INVALID_ARGUMENT;
        }
        return now.baseValue(time, what == 0 ? PRESSURE : TEMPERATURE);
    }

    public int step(int index) {
        int end = now.stepEnd(index);
        return end == NONE ? INVALID_ARGUMENT : end;
    }

    public int raw(int cell, int reading) {
        if (!isCell(cell) || !isReadingOf(cell, reading)) {
            return INVALID_ARGUMENT;
        }
        refresh();
        return surveyOf(cell).rawHeight(reading);
    }

    public int would(int time, int pressure, int temperature) {
        if (!isReading(time, pressure, temperature)) {
            return INVALID_ARGUMENT;
        }
        return now.heightAt(time, pressure, temperature);
    }

    public int pressureFor(int time, int temperature, int height) {
        boolean inRange = isTime(time) && isTemperature(temperature) && within(height, -1000000, 10000000);
        if (!inRange) {
            return INVALID_ARGUMENT;
        }
        int highest = now.heightAt(time, LEAST_PRESSURE, temperature);
        if (highest == NOT_FOUND || highest < height) {
            return NOT_FOUND;
        }
        return greatestPressure(time, temperature, height);
    }

    // ---- loops and heights

    public int loops(int cell) {
        if (!isCell(cell)) {
            return INVALID_ARGUMENT;
        }
        refresh();
        return surveyOf(cell).loopCount;
    }

    public int loop(int cell, int loop, int what) {
        if (!isCell(cell)) {
            return INVALID_ARGUMENT;
        }
        refresh();
        Survey survey = surveyOf(cell);
        if (!within(loop, 0, survey.loopCount - 1)) {
            return INVALID_ARGUMENT;
        }
        switch (what) {
            case 0:
                return survey.begin(loop);
            case 1:
                return survey.end(loop);
            case 2:
                return survey.misclosure(loop);
            case 3:
                return survey.misclosureBySteps(loop);
            case 4:
                return survey.minutes(loop);
            default:
                return INVALID_ARGUMENT;
        }
    }

    public int openLoop(int cell, int reading) {
        if (!isCell(cell) || !isReadingOf(cell, reading)) {
            return INVALID_ARGUMENT;
        }
        refresh();
        int found = surveyOf(cell).openLoopOf(reading);
        return found == NONE ? NOT_FOUND : found;
    }

    public int corrected(int cell, int reading) {
        if (!isCell(cell) || !isReadingOf(cell, reading)) {
            return INVALID_ARGUMENT;
        }
        refresh();
        return surveyOf(cell).correctedHeight(reading);
    }

    public int point(int point, int what) {
        if (!isPoint(point) || !within(what, 0, 2)) {
            return INVALID_ARGUMENT;
        }
        refresh();
        gather(point);
        if (what == 2) {
            return pointSum.number;
        }
        if (pointSum.number == 0) {
            return NOT_FOUND;
        }
        return what == 0 ? pointSum.height() : pointSum.spread();
    }

    public int worst(int what) {
        if (!within(what, 0, 1)) {
            return INVALID_ARGUMENT;
        }
        refresh();
        int greatest = NONE;
        int worstCell = NOT_FOUND;
        int worstLoop = NOT_FOUND;
        for (int cell = 0; cell < CELLS; cell++) {
            Survey survey = surveyOf(cell);
            for (int loop = 0; loop < survey.loopCount; loop++) {
                int size = Math.abs(survey.misclosure(loop));
                if (size > greatest) {
                    greatest = size;
                    worstCell = cell;
                    worstLoop = loop;
                }
            }
        }
        return what == 0 ? worstCell : worstLoop;
    }

    // ---- texts

    public int type(int character) {
        if (!within(character, 32, 126)) {
            return INVALID_ARGUMENT;
        }
        if (text.length >= TEXT_ROOM) {
            return LIMIT_REACHED;
        }
        text.append(character);
        return text.length;
    }

    public int clearText() {
        int previous = text.length;
        text.length = 0;
        return previous;
    }

    public int fault(int what) {
        if (!within(what, 0, 1)) {
            return INVALID_ARGUMENT;
        }
        tryText();
        if (text.faultPosition == NONE) {
            return NOT_FOUND;
        }
        return what == 0 ? text.faultPosition : text.faultReason;
    }

    public int enter() {
        tryText();
        if (text.faultPosition != NONE) {
            return NOT_POSSIBLE;
        }
        record();
        now.copyFrom(trial);
        return text.taken;
    }

    // ---- ranges

    private static boolean within(int value, int least, int greatest) {
        return value >= least && value <= greatest;
    }

    private static boolean isSetting(int what, int value) {
        switch (what) {
            case BASE_HEIGHT:
                return within(value, -500000, 9000000);
            case GUST_LIMIT:
                return within(value, 1, 5000);
            case STEP_LIMIT:
                return within(value, 1, 500);
            default:
                return false;
        }
    }

    private static boolean isCell(int cell) {
        return within(cell, 0, CELLS - 1);
    }

    private static boolean isPoint(int point) {
        return within(point, 0, POINTS - 1);
    }

    private static boolean isTime(int time) {
        return within(time, 0, 10000);
    }

    private static boolean isTemperature(int temperature) {
        return within(temperature, -300, 500);
    }

    private static boolean isReading(int time, int pressure, int temperature) {
        return isTime(time)
            && within(pressure, LEAST_PRESSURE, GREATEST_PRESSURE)
            && isTemperature(temperature);
    }

    private boolean isReadingOf(int cell, int reading) {
        return (cell == BASE || isCell(cell)) && within(reading, 0, now.track(cell).size - 1);
    }

    // ---- rows and numbers, guarded here so that no caller has to

    private static int at(int[] row, int index) {
        return index >= 0 && index < row.length ? row[index] : 0;
    }

    private static void put(int[] row, int index, int value) {
        if (index >= 0 && index < row.length) {
            row[index] = value;
        }
    }

    private static long divideDown(long dividend, long divisor) {
        return divisor == 0 ? 0 : Math.floorDiv(dividend, divisor);
    }

    // ---- changes

    private void record() {
        history.keep(now);
        stale = true;
    }

    private int take(int cell, int point, int time, int pressure, int temperature) {
        Track track = now.track(cell);
        if (track.hasTime(time)) {
            return NOT_POSSIBLE;
        }
        if (track.isFull()) {
            return LIMIT_REACHED;
        }
        record();
        return track.insert(point, time, pressure, temperature);
    }

    private void tryText() {
        trial.copyFrom(now);
        text.readInto(trial);
    }

    // ---- answers from several readings

    // Many questions come between two changes, so the surveys are worked out once for all of them.
    private void refresh() {
        if (stale) {
            firstSurvey.workOut(now, 0);
            secondSurvey.workOut(now, 1);
            thirdSurvey.workOut(now, 2);
            stale = false;
        }
    }

    private Survey surveyOf(int cell) {
        switch (cell) {
            case 0:
                return firstSurvey;
            case 1:
                return secondSurvey;
            default:
                return thirdSurvey;
        }
    }

    private int pointsWithHeight() {
        int points = 0;
        for (int point = 0; point < POINTS; point++) {
            gather(point);
            points += pointSum.number > 0 ? 1 : 0;
        }
        return points;
    }

    private void gather(int point) {
        pointSum.clear();
        for (int cell = 0; cell < CELLS; cell++) {
            surveyOf(cell).addTo(pointSum, point);
        }
    }

    // A raw height never rises with the pressure, so halving the range finds the greatest one.
    private int greatestPressure(int time, int temperature, int height) {
        int reached = LEAST_PRESSURE;
        int most = GREATEST_PRESSURE;
        for (int halving = 0; halving < 32 && reached < most; halving++) {
            int middle = reached + (most - reached + 1) / 2;
            if (now.heightAt(time, middle, temperature) >= height) {
                reached = middle;
            } else {
                most = middle - 1;
            }
        }
        return reached;
    }

    /** The readings of the base or of one cell, in the order of their times. */
    private static final class Track {
        // Reading behind reading, so that one copy takes them all.
        private final int[] values = new int[CELL_ROOM * FIELDS];
        private final int room;
        private int size;

        Track(int room) {
            this.room = Math.min(room, CELL_ROOM);
        }

        int value(int reading, int field) {
            return at(values, reading * FIELDS + field);
        }

        boolean isFull() {
            return size >= room;
        }

        boolean hasTime(int time) {
            for (int reading = 0; reading < size; reading++) {
                if (value(reading, TIME) == time) {
                    return true;
                }
            }
            return false;
        }

        boolean standsOut(int reading, int limit) {
            if (reading <= 0 || reading >= size - 1) {
                return false;
            }
            int pressure = value(reading, PRESSURE);
            int overBefore = pressure - value(reading - 1, PRESSURE);
            int overNext = pressure - value(reading + 1, PRESSURE);
            return overBefore > limit && overNext > limit || overBefore < -limit && overNext < -limit;
        }

        int insert(int point, int time, int pressure, int temperature) {
            int reading = size;
            for (; reading > 0 && value(reading - 1, TIME) > time; reading--) {
                move(reading - 1, reading);
            }
            int place = reading * FIELDS;
            put(values, place + TIME, time);
            put(values, place + PRESSURE, pressure);
            put(values, place + TEMPERATURE, temperature);
            put(values, place + POINT, point);
            size++;
            return reading;
        }

        void remove(int reading) {
            for (int next = reading + 1; next < size; next++) {
                move(next, next - 1);
            }
            size--;
        }

        void copyFrom(Track other) {
            System.arraycopy(other.values, 0, values, 0, Math.min(other.values.length, values.length));
            size = other.size;
        }

        private void move(int from, int to) {
            for (int field = 0; field < FIELDS; field++) {
                put(values, to * FIELDS + field, value(from, field));
            }
        }
    }

    /** All that a change changes and an undo restores. */
    private static final class State {
        private final Track baseTrack = new Track(BASE_ROOM);
        private final Track firstTrack = new Track(CELL_ROOM);
        private final Track secondTrack = new Track(CELL_ROOM);
        private final Track thirdTrack = new Track(CELL_ROOM);
        private int baseHeight = 0;
        private int gustLimit = 60;
        private int stepLimit = 50;

        State() {
        }

        Track track(int cell) {
            switch (cell) {
                case 0:
                    return firstTrack;
                case 1:
                    return secondTrack;
                case 2:
                    return thirdTrack;
                default:
                    return baseTrack;
            }
        }

        int setting(int what) {
            switch (what) {
                case BASE_HEIGHT:
                    return baseHeight;
                case GUST_LIMIT:
                    return gustLimit;
                default:
                    return stepLimit;
            }
        }

        void putSetting(int what, int value) {
            switch (what) {
                case BASE_HEIGHT:
                    baseHeight = value;
                    break;
                case GUST_LIMIT:
                    gustLimit = value;
                    break;
                default:
                    stepLimit = value;
                    break;
            }
        }

        void copyFrom(State other) {
            baseTrack.copyFrom(other.baseTrack);
            firstTrack.copyFrom(other.firstTrack);
            secondTrack.copyFrom(other.secondTrack);
            thirdTrack.copyFrom(other.thirdTrack);
            baseHeight = other.baseHeight;
            gustLimit = other.gustLimit;
            stepLimit = other.stepLimit;
        }

        int baseValue(int time, int field) {
            int next = 0;
            while (next < baseTrack.size && baseTrack.value(next, TIME) < time) {
                next++;
            }
            if (next >= baseTrack.size) {
                return NOT_FOUND;
            }
            int end = baseTrack.value(next, TIME);
            int valueAtEnd = baseTrack.value(next, field);
            if (end == time) {
                return valueAtEnd;
            }
            if (next == 0) {
                return NOT_FOUND;
            }
            int begin = baseTrack.value(next - 1, TIME);
            int valueAtBegin = baseTrack.value(next - 1, field);
            long product = (long) (valueAtEnd - valueAtBegin) * (time - begin);
            return (int) (valueAtBegin + divideDown(product, end - begin));
        }

        int heightAt(int time, int pressure, int temperature) {
            int basePressure = baseValue(time, PRESSURE);
            if (basePressure == NOT_FOUND) {
                return NOT_FOUND;
            }
            int baseTemperature = baseValue(time, TEMPERATURE);
            long warmth = 2732 + Math.floorDiv(baseTemperature + temperature, 2);
            long middlePressure = Math.floorDiv(basePressure + pressure, 2);
            long product = 2930 * warmth * (basePressure - pressure);
            return (int) (baseHeight + divideDown(product, middlePressure));
        }

        private boolean isStepEnd(int reading) {
            int change = baseTrack.value(reading, TEMPERATURE) - baseTrack.value(reading - 1, TEMPERATURE);
            return Math.abs(change) >= stepLimit;
        }

        int steps() {
            int steps = 0;
            for (int reading = 1; reading < baseTrack.size; reading++) {
                steps += isStepEnd(reading) ? 1 : 0;
            }
            return steps;
        }

        int stepEnd(int index) {
            int steps = 0;
            for (int reading = 1; reading < baseTrack.size; reading++) {
                if (isStepEnd(reading)) {
                    if (steps == index) {
                        return reading;
                    }
                    steps++;
                }
            }
            return NONE;
        }
    }

    /** The states before the latest changes; the places go round, so that none is made anew. */
    private static final class History {
        private final State[] places = new State[HISTORY_ROOM];
        private int oldest;
        private int size;

        History() {
            for (int i = 0; i < places.length; i++) {
                places[i] = new State();
            }
        }

        void keep(State state) {
            if (size >= HISTORY_ROOM) {
                oldest = (oldest + 1) % HISTORY_ROOM;
                size--;
            }
            State place = place(size);
            if (place != null) {
                place.copyFrom(state);
                size++;
            }
        }

        void giveBack(State state) {
            State place = place(size - 1);
            if (place != null) {
                state.copyFrom(place);
                size--;
            }
        }

        private State place(int age) {
            int index = (oldest + age) % HISTORY_ROOM;
            return index >= 0 && index < places.length ? places[index] : null;
        }
    }

    /** What follows for one cell from its readings, those of the base and the settings. */
    private static final class Survey {
        private final int[] times = new int[CELL_ROOM];
        private final int[] points = new int[CELL_ROOM];
        private final int[] heights = new int[CELL_ROOM];
        private final int[] gusts = new int[CELL_ROOM];
        private final int[] openLoops = new int[CELL_ROOM];
        private final int[] correctedHeights = new int[CELL_ROOM];
        private final int[] begins = new int[CELL_ROOM];
        private final int[] ends = new int[CELL_ROOM];
        private int size;
        private int gustCount;
        private int goodCount;
        private int loopCount;

        Survey() {
        }

        // Loops need all good readings, and corrected heights need all loops: hence three rounds.
        void workOut(State state, int cell) {
            Track track = state.track(cell);
            size = track.size;
            for (int reading = 0; reading < size; reading++) {
                int time = track.value(reading, TIME);
                int pressure = track.value(reading, PRESSURE);
                int temperature = track.value(reading, TEMPERATURE);
                put(times, reading, time);
                put(points, reading, track.value(reading, POINT));
                put(heights, reading, state.heightAt(time, pressure, temperature));
                put(gusts, reading, track.standsOut(reading, state.gustLimit) ? 1 : 0);
            }
            countKinds();
            findLoops();
            for (int reading = 0; reading < size; reading++) {
                put(openLoops, reading, shortestLoop(reading));
                put(correctedHeights, reading, withoutDrift(reading));
            }
        }

        boolean isGust(int reading) {
            return at(gusts, reading) == 1;
        }

        int rawHeight(int reading) {
            return at(heights, reading);
        }

        boolean isGood(int reading) {
            return at(heights, reading) != NOT_FOUND && at(gusts, reading) == 0;
        }

        int openLoopOf(int reading) {
            return at(openLoops, reading);
        }

        int correctedHeight(int reading) {
            return at(correctedHeights, reading);
        }

        int begin(int loop) {
            return at(begins, loop);
        }

        int end(int loop) {
            return at(ends, loop);
        }

        int minutes(int loop) {
            return at(times, end(loop)) - at(times, begin(loop));
        }

        int misclosure(int loop) {
            return rawHeight(end(loop)) - rawHeight(begin(loop));
        }

        int misclosureBySteps(int loop) {
            int sum = 0;
            int before = rawHeight(begin(loop));
            for (int reading = begin(loop) + 1; reading <= end(loop) && reading < size; reading++) {
                if (isGood(reading)) {
                    sum += rawHeight(reading) - before;
                    before = rawHeight(reading);
                }
            }
            return sum;
        }

        void addTo(PointSum sum, int point) {
            for (int reading = 0; reading < size; reading++) {
                if (isGood(reading) && at(points, reading) == point && !endsOpenLoop(reading)) {
                    sum.add(correctedHeight(reading));
                }
            }
        }

        private boolean endsOpenLoop(int reading) {
            int loop = openLoopOf(reading);
            return loop != NONE && end(loop) == reading;
        }

        private void countKinds() {
            gustCount = 0;
            goodCount = 0;
            for (int reading = 0; reading < size; reading++) {
                gustCount += isGust(reading) ? 1 : 0;
                goodCount += isGood(reading) ? 1 : 0;
            }
        }

        private void findLoops() {
            loopCount = 0;
            for (int end = 0; end < size; end++) {
                int begin = isGood(end) ? lastVisit(end) : NONE;
                if (begin != NONE) {
                    put(begins, loopCount, begin);
                    put(ends, loopCount, end);
                    loopCount++;
                }
            }
        }

        private int lastVisit(int reading) {
            int point = at(points, reading);
            for (int before = reading - 1; before >= 0; before--) {
                if (isGood(before) && at(points, before) == point) {
                    return before;
                }
            }
            return NONE;
        }

        private int shortestLoop(int reading) {
            int shortest = NONE;
            if (!isGood(reading)) {
                return NONE;
            }
            for (int loop = 0; loop < loopCount; loop++) {
                boolean around = begin(loop) <= reading && reading <= end(loop);
                if (around && (shortest == NONE || minutes(loop) < minutes(shortest))) {
                    shortest = loop;
                }
            }
            return shortest;
        }

        private int withoutDrift(int reading) {
            if (!isGood(reading)) {
                return NOT_FOUND;
            }
            int loop = openLoopOf(reading);
            if (loop == NONE) {
                return rawHeight(reading);
            }
            long since = at(times, reading) - at(times, begin(loop));
            return (int) (rawHeight(reading) - divideDown(misclosure(loop) * since, minutes(loop)));
        }
    }

    /** The corrected heights that make the height of one point. */
    private static final class PointSum {
        private long sum;
        private int number;
        private int least;
        private int greatest;

        PointSum() {
        }

        void clear() {
            sum = 0;
            number = 0;
        }

        void add(int height) {
            least = number == 0 ? height : Math.min(least, height);
            greatest = number == 0 ? height : Math.max(greatest, height);
            sum += height;
            number++;
        }

        int height() {
            return (int) divideDown(sum, number);
        }

        int spread() {
            return greatest - least;
        }
    }

    /** The typed text, and what was found when it was last read. */
    private static final class Text {
        private final int[] characters = new int[TEXT_ROOM];
        private int length;
        private int position;
        private int cell;
        private int point;
        private int time;
        private int pressure;
        private int temperature;
        private int taken;
        private int faultPosition = NONE;
        private int faultReason;

        Text() {
        }

        void append(int character) {
            if (length < TEXT_ROOM) {
                put(characters, length, character);
                length++;
            }
        }

        // The readings go into the state one by one, so that later ones meet those ahead of them.
        void readInto(State state) {
            position = 0;
            taken = 0;
            faultPosition = NONE;
            for (int round = 0; round < TEXT_ROOM && position < length; round++) {
                int start = position;
                faultReason = takeReading() ? reasonAgainst(state.track(cell)) : FAULT_OF_FORM;
                if (faultReason != NO_FAULT) {
                    faultPosition = start;
                    return;
                }
                state.track(cell).insert(point, time, pressure, temperature);
                taken++;
            }
        }

        private int reasonAgainst(Track track) {
            if (cell >= CELLS || !isReading(time, pressure, temperature)) {
                return FAULT_OF_RANGE;
            }
            if (track.hasTime(time)) {
                return FAULT_OF_TIME;
            }
            return track.isFull() ? FAULT_OF_ROOM : NO_FAULT;
        }

        private boolean takeReading() {
            if (!takePlace() || !skip('t')) {
                return false;
            }
            time = takeNumber(5);
            if (time == NONE || !skip('p')) {
                return false;
            }
            pressure = takeNumber(6);
            if (pressure == NONE || !skip('c')) {
                return false;
            }
            boolean below = skip('-');
            int degrees = takeNumber(3);
            temperature = below ? -degrees : degrees;
            return degrees != NONE && skip(';');
        }

        private boolean takePlace() {
            cell = BASE;
            point = 0;
            if (skip('b')) {
                return true;
            }
            if (!skip('c')) {
                return false;
            }
            cell = takeNumber(1);
            if (cell == NONE || !skip('@')) {
                return false;
            }
            point = takeNumber(1);
            return point != NONE;
        }

        private boolean skip(char wanted) {
            if (position >= length || at(characters, position) != wanted) {
                return false;
            }
            position++;
            return true;
        }

        private int takeNumber(int mostDigits) {
            int number = NONE;
            for (int digits = 0; digits < mostDigits && position < length; digits++) {
                int digit = at(characters, position) - '0';
                if (!within(digit, 0, 9)) {
                    return number;
                }
                number = digits == 0 ? digit : number * 10 + digit;
                position++;
            }
            return number;
        }
    }
}
