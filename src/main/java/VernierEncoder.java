public final class VernierEncoder {
    public static final int INVALID_ARGUMENT = -1;
    public static final int NOT_POSSIBLE = -2;
    public static final int LIMIT_REACHED = -3;
    public static final int NOT_FOUND = -4;

    private static final int TRACKS = 3;
    private static final int SECTORS = 8;
    private static final int CELLS = TRACKS * SECTORS;
    private static final int[] LENGTHS = {272, 255, 240};

    private static final int ANGLES = 4080;
    private static final int PLACES = 16 * ANGLES;
    private static final int QUARTER = 1020;
    private static final int SECTOR_WIDTH = 510;
    private static final int COUNTER_VALUES = 64;
    private static final int COARSE_VALUES = 64;

    private static final int GREATEST_TURN = 9999;
    private static final int GREATEST_CHARGE = 999;
    private static final int FIRST_CHARGE = 200;
    private static final int GREATEST_BROWNOUT = 9;
    private static final int MOST_TO_MISS = 99;
    private static final int GREATEST_ERROR = 9;
    private static final int GREATEST_CORRECTION = 20;
    private static final int LEAST_SURVEY_STEP = 102;
    private static final int APART_TOO_OFTEN = 3;
    private static final int STATES = 4;
    private static final int TEXT_LIMIT = 60;

    private static final int TOLERANCE = 0;
    private static final int WINDOW = 1;
    private static final int STEP = 2;
    private static final int BIAS = 3;
    private static final int[] LEAST_SETTINGS = {0, 0, 1, -31};
    private static final int[] GREATEST_SETTINGS = {40, 32, 4080, 31};
    private static final int FIRST_SETTING_COUNT = 20;

    private static final int NONE = -1;
    private static final int ABOVE_NEGATIVES = 100;
    private static final int NOT_ACCEPTED = 100000;

    private final State now = new State();
    private final History history = new History();
    private final Finding finding = new Finding();
    private final Trial trial = new Trial();
    private final Entries entries = new Entries();

    public VernierEncoder() {
    }

    // ---- the shaft

    public int turn(int places) {
        if (isOutside(places, -GREATEST_TURN, GREATEST_TURN)) {
            return INVALID_ARGUMENT;
        }
        int target = now.place + places;
        if (isOutside(target, 0, PLACES - 1)) {
            return NOT_POSSIBLE;
        }
        history.keep(now);
        int crossings = target / QUARTER - now.place / QUARTER;
        int direction = crossings < 0 ? -1 : 1;
        for (int crossed = 0; crossed < Math.abs(crossings); crossed++) {
            now.crossBound(direction);
        }
        now.place = target;
        return target;
    }

    public int power(int on) {
        if (isOutside(on, 0, 1)) {
            return INVALID_ARGUMENT;
        }
        history.keep(now);
        int previous = toNumber(now.powered);
        now.powered = on == 1;
        return previous;
    }

    public int brownout(int crossings) {
        if (isOutside(crossings, 1, GREATEST_BROWNOUT)) {
            return INVALID_ARGUMENT;
        }
        if (now.toMiss + crossings > MOST_TO_MISS) {
            return LIMIT_REACHED;
        }
        history.keep(now);
        now.toMiss += crossings;
        return now.toMiss;
    }

    public int charge(int charge) {
        if (isOutside(charge, 0, GREATEST_CHARGE)) {
            return INVALID_ARGUMENT;
        }
        history.keep(now);
        int previous = now.battery;
        now.battery = charge;
        return previous;
    }

    public int count(int what) {
        switch (what) {
            case 0: return now.place;
            case 1: return now.angle();
            case 2: return now.counter;
            case 3: return toNumber(now.powered);
            case 4: return now.battery;
            case 5: return now.toMiss;
            case 6: return now.accepted == NONE ? NOT_FOUND : now.accepted;
            case 7: return now.apartInRow;
            case 8: return now.coarse();
            case 9: return now.correctionsInUse();
            case 10: return history.size;
            case 11: return entries.length;
            default: return settingCount(what - FIRST_SETTING_COUNT);
        }
    }

    public int undo() {
        if (history.size == 0) {
            return NOT_POSSIBLE;
        }
        history.restoreLatest(now);
        return history.size;
    }

    // ---- the disk

    public int disk(int track, int sector, int error) {
        if (!isCell(track, sector) || isOutside(error, -GREATEST_ERROR, GREATEST_ERROR)) {
            return INVALID_ARGUMENT;
        }
        history.keep(now);
        int previous = at(now.errors, cell(track, sector));
        put(now.errors, cell(track, sector), error);
        return previous + ABOVE_NEGATIVES;
    }

    public int noise(int track, int noise) {
        if (!isTrack(track) || isOutside(noise, -GREATEST_ERROR, GREATEST_ERROR)) {
            return INVALID_ARGUMENT;
        }
        history.keep(now);
        int previous = at(now.noises, track);
        put(now.noises, track, noise);
        return previous + ABOVE_NEGATIVES;
    }

    public int set(int what, int value) {
        if (isOutside(what, TOLERANCE, BIAS)
                || isOutside(value, at(LEAST_SETTINGS, what), at(GREATEST_SETTINGS, what))) {
            return INVALID_ARGUMENT;
        }
        history.keep(now);
        int previous = shownSetting(what);
        put(now.settings, what, value);
        return previous;
    }

    public int reading(int track) {
        return isTrack(track) ? now.readingAt(track, now.angle()) : INVALID_ARGUMENT;
    }

    public int found(int first, int second, int third, int what) {
        if (!isReading(0, first) || !isReading(1, second) || !isReading(2, third)
                || isOutside(what, 0, 1)) {
            return INVALID_ARGUMENT;
        }
        int angle = nearestAngle(first, second, third);
        return what == 0 ? angle : deviation(angle, first, second, third);
    }

    public int byTwo(int track, int one, int other, int two) {
        if (!isTrack(track) || !isTrack(other) || track == other
                || !isReading(track, one) || !isReading(other, two)) {
            return INVALID_ARGUMENT;
        }
        for (int angle = 0; angle < ANGLES; angle++) {
            if (remainder(angle, at(LENGTHS, track)) == one
                    && remainder(angle, at(LENGTHS, other)) == two) {
                return angle;
            }
        }
        return NOT_FOUND;
    }

    // ---- corrections

    public int correct(int track, int sector, int correction) {
        if (!isCell(track, sector)
                || isOutside(correction, -GREATEST_CORRECTION, GREATEST_CORRECTION)) {
            return INVALID_ARGUMENT;
        }
        history.keep(now);
        int previous = at(now.corrections, cell(track, sector));
        put(now.corrections, cell(track, sector), correction);
        return previous + ABOVE_NEGATIVES;
    }

    public int correction(int track, int sector) {
        if (!isCell(track, sector)) {
            return INVALID_ARGUMENT;
        }
        return at(now.corrections, cell(track, sector)) + ABOVE_NEGATIVES;
    }

    public int learn() {
        for (int track = 0; track < TRACKS; track++) {
            if (isOutside(now.excess(track), -GREATEST_CORRECTION, GREATEST_CORRECTION)) {
                return NOT_POSSIBLE;
            }
        }
        history.keep(now);
        int sector = sectorOf(now.angle());
        int changed = 0;
        for (int track = 0; track < TRACKS; track++) {
            int learned = now.excess(track);
            if (at(now.corrections, cell(track, sector)) != learned) {
                changed++;
            }
            put(now.corrections, cell(track, sector), learned);
        }
        return changed;
    }

    public int look(int what) {
        if (isOutside(what, 0, 4)) {
            return INVALID_ARGUMENT;
        }
        finding.search(now, now.angle());
        switch (what) {
            case 0: return finding.last;
            case 1: return finding.lastDeviation;
            case 2: return finding.first;
            case 3: return finding.angles;
            default: return toNumber(finding.last == now.angle());
        }
    }

    public int survey(int by, int what) {
        if (isOutside(by, LEAST_SURVEY_STEP, ANGLES) || isOutside(what, 0, 2)) {
            return INVALID_ARGUMENT;
        }
        int others = 0;
        int firstOther = NOT_FOUND;
        int greatest = 0;
        for (int angle = 0; angle < ANGLES; angle += by) {
            finding.search(now, angle);
            greatest = Math.max(greatest, finding.lastDeviation);
            if (finding.last != angle) {
                firstOther = others == 0 ? angle : firstOther;
                others++;
            }
        }
        switch (what) {
            case 0: return others;
            case 1: return firstOther;
            default: return greatest;
        }
    }

    public int poor() {
        int sectors = 0;
        for (int sector = 0; sector < SECTORS; sector++) {
            if (now.isPoor(sector)) {
                sectors++;
            }
        }
        return sectors;
    }

    // ---- samples

    public int sample() {
        if (!now.powered) {
            return NOT_POSSIBLE;
        }
        history.keep(now);
        finding.search(now, now.angle());
        trial.judge(now, finding);
        now.counter = trial.counter;
        now.apartInRow = trial.apartInRow;
        if (trial.refusal != 0) {
            return NOT_ACCEPTED + trial.refusal;
        }
        now.accepted = trial.place;
        return now.accepted;
    }

    public int reason() {
        if (!now.powered) {
            return NOT_POSSIBLE;
        }
        finding.search(now, now.angle());
        trial.judge(now, finding);
        return trial.refusal;
    }

    public int forget() {
        history.keep(now);
        int had = toNumber(now.accepted != NONE);
        now.accepted = NONE;
        now.apartInRow = 0;
        return had;
    }

    public int apart() {
        return now.accepted == NONE ? NOT_FOUND : distance(now.accepted, now.place, PLACES);
    }

    // ---- texts

    public int type(int character) {
        if (isOutside(character, ' ', '~')) {
            return INVALID_ARGUMENT;
        }
        if (entries.length >= TEXT_LIMIT) {
            return LIMIT_REACHED;
        }
        entries.append(character);
        return entries.length;
    }

    public int clearText() {
        int previous = entries.length;
        entries.length = 0;
        return previous;
    }

    public int fault(int what) {
        if (isOutside(what, 0, 1)) {
            return INVALID_ARGUMENT;
        }
        entries.scan();
        if (entries.faultReason == 0) {
            return NOT_FOUND;
        }
        return what == 0 ? entries.faultPosition : entries.faultReason;
    }

    public int load() {
        entries.scan();
        if (entries.faultReason != 0) {
            return NOT_POSSIBLE;
        }
        history.keep(now);
        copy(entries.table, now.corrections);
        return entries.scanned;
    }

    private int settingCount(int setting) {
        return isOutside(setting, TOLERANCE, BIAS) ? INVALID_ARGUMENT : shownSetting(setting);
    }

    private int shownSetting(int setting) {
        int value = at(now.settings, setting);
        return setting == BIAS ? value + ABOVE_NEGATIVES : value;
    }

    private static boolean isOutside(int value, int least, int greatest) {
        return value < least || value > greatest;
    }

    private static boolean isTrack(int track) {
        return !isOutside(track, 0, TRACKS - 1);
    }

    private static boolean isCell(int track, int sector) {
        return isTrack(track) && !isOutside(sector, 0, SECTORS - 1);
    }

    private static boolean isReading(int track, int reading) {
        return !isOutside(reading, 0, at(LENGTHS, track) - 1);
    }

    private static int cell(int track, int sector) {
        return track * SECTORS + sector;
    }

    private static int sectorOf(int angle) {
        return angle / SECTOR_WIDTH;
    }

    private static int toNumber(boolean holds) {
        return holds ? 1 : 0;
    }

    private static int at(int[] row, int index) {
        return index >= 0 && index < row.length ? row[index] : 0;
    }

    private static void put(int[] row, int index, int value) {
        if (index >= 0 && index < row.length) {
            row[index] = value;
        }
    }

    private static void copy(int[] from, int[] to) {
        for (int index = 0; index < from.length && index < to.length; index++) {
            to[index] = from[index];
        }
    }

    private static int remainder(int number, int divisor) {
        if (divisor <= 0) {
            return 0;
        }
        int rest = number % divisor;
        return rest < 0 ? rest + divisor : rest;
    }

    private static int distance(int one, int other, int length) {
        return Math.min(remainder(one - other, length), remainder(other - one, length));
    }

    private static int deviation(int angle, int first, int second, int third) {
        int ofFirst = distance(angle, first, at(LENGTHS, 0));
        int ofSecond = distance(angle, second, at(LENGTHS, 1));
        int ofThird = distance(angle, third, at(LENGTHS, 2));
        return Math.max(ofFirst, Math.max(ofSecond, ofThird));
    }

    private static int nearestAngle(int first, int second, int third) {
        int nearest = 0;
        int least = deviation(0, first, second, third);
        int angle = 1;
        while (angle < ANGLES && least > 0) {
            int deviation = deviation(angle, first, second, third);
            if (deviation < least) {
                nearest = angle;
                least = deviation;
            }
            // From one angle to the next a deviation falls by 1 at most: those between can't be less.
            angle += Math.max(1, deviation - least + 1);
        }
        return nearest;
    }

    /** Everything that undo() restores: all but the text. */
    private static final class State {
        private int place = 0;
        private int counter = 0;
        private boolean powered = true;
        private int battery = FIRST_CHARGE;
        private int toMiss = 0;
        private int accepted = NONE;
        private int apartInRow = 0;
        private final int[] settings = {5, 2, 500, 0};
        private final int[] errors = new int[CELLS];
        private final int[] noises = new int[TRACKS];
        private final int[] corrections = new int[CELLS];

        private void copyFrom(State other) {
            place = other.place;
            counter = other.counter;
            powered = other.powered;
            battery = other.battery;
            toMiss = other.toMiss;
            accepted = other.accepted;
            apartInRow = other.apartInRow;
            copy(other.settings, settings);
            copy(other.errors, errors);
            copy(other.noises, noises);
            copy(other.corrections, corrections);
        }

        private int angle() {
            return remainder(place, ANGLES);
        }

        private int coarse() {
            int exact = angle() * COARSE_VALUES / ANGLES;
            return remainder(exact + at(settings, BIAS), COARSE_VALUES);
        }

        private int readingAt(int track, int angle) {
            int error = at(errors, cell(track, sectorOf(angle)));
            return remainder(angle + error + at(noises, track), at(LENGTHS, track));
        }

        /** What a track's reading is too high at the shaft's angle, below 0 if it is too low. */
        private int excess(int track) {
            int length = at(LENGTHS, track);
            int above = remainder(readingAt(track, angle()) - angle(), length);
            return above > length / 2 ? above - length : above;
        }

        private int corrected(int track, int reading, int sector) {
            return remainder(reading - at(corrections, cell(track, sector)), at(LENGTHS, track));
        }

        private int correctionsInUse() {
            int inUse = 0;
            for (int index = 0; index < CELLS; index++) {
                if (at(corrections, index) != 0) {
                    inUse++;
                }
            }
            return inUse;
        }

        private boolean isPoor(int sector) {
            for (int track = 0; track < TRACKS; track++) {
                int index = cell(track, sector);
                int left = at(errors, index) + at(noises, track) - at(corrections, index);
                if (Math.abs(left) > at(settings, TOLERANCE)) {
                    return true;
                }
            }
            return false;
        }

        private void crossBound(int direction) {
            if (!powered) {
                if (battery == 0) {
                    return;
                }
                battery--;
                if (toMiss > 0) {
                    toMiss--;
                    return;
                }
            }
            counter = remainder(counter + direction, COUNTER_VALUES);
        }
    }

    /** The states before the latest changes, in rows that are used again and again. */
    private static final class History {
        private final State[] states = {new State(), new State(), new State(), new State()};
        private int oldest = 0;
        private int size = 0;

        private State slot(int age) {
            int index = remainder(oldest + age, STATES);
            return index >= 0 && index < states.length ? states[index] : null;
        }

        private void keep(State state) {
            if (size == STATES) {
                oldest = remainder(oldest + 1, STATES);
                size--;
            }
            State slot = slot(size);
            if (slot != null) {
                slot.copyFrom(state);
                size++;
            }
        }

        private void restoreLatest(State state) {
            State slot = slot(size - 1);
            if (slot != null) {
                state.copyFrom(slot);
                size--;
            }
        }
    }

    /** The angles found in the table for the readings at one angle. */
    private static final class Finding {
        private int first = 0;
        private int last = 0;
        private int lastDeviation = 0;
        private int angles = 0;

        private void search(State state, int angle) {
            first = nearestAngle(state.readingAt(0, angle), state.readingAt(1, angle),
                    state.readingAt(2, angle));
            int sector = sectorOf(first);
            searchCorrected(state, angle, sector);
            angles = 2;
            if (sectorOf(last) != sector) {
                searchCorrected(state, angle, sectorOf(last));
                angles = 3;
            }
        }

        private void searchCorrected(State state, int angle, int sector) {
            int one = state.corrected(0, state.readingAt(0, angle), sector);
            int two = state.corrected(1, state.readingAt(1, angle), sector);
            int three = state.corrected(2, state.readingAt(2, angle), sector);
            last = nearestAngle(one, two, three);
            lastDeviation = deviation(last, one, two, three);
        }
    }

    /** What a sample would be and leave behind, so that it can be asked for without being taken. */
    private static final class Trial {
        private int refusal = 0;
        private int counter = 0;
        private int apartInRow = 0;
        private int place = 0;

        private void judge(State state, Finding finding) {
            counter = state.counter;
            apartInRow = state.apartInRow;
            refusal = firstRefusal(state, finding);
        }

        private int firstRefusal(State state, Finding finding) {
            if (finding.lastDeviation > at(state.settings, TOLERANCE)) {
                return 1;
            }
            int ahead = remainder(finding.last / QUARTER - state.counter, 4);
            if (ahead == 2) {
                return 2;
            }
            int change = ahead == 3 ? -1 : ahead;
            counter = remainder(state.counter + change, COUNTER_VALUES);
            place = counter / 4 * ANGLES + finding.last;
            int exact = finding.last * COARSE_VALUES / ANGLES;
            boolean isApart = distance(state.coarse(), exact, COARSE_VALUES) > at(state.settings, WINDOW);
            apartInRow = isApart ? state.apartInRow + 1 : 0;
            if (apartInRow >= APART_TOO_OFTEN) {
                return 3;
            }
            if (state.accepted != NONE
                    && distance(state.accepted, place, PLACES) > at(state.settings, STEP)) {
                return 4;
            }
            return 0;
        }
    }

    /** The text, and what the last scan of it told. */
    private static final class Entries {
        private final int[] characters = new int[TEXT_LIMIT];
        private int length = 0;
        private final int[] table = new int[CELLS];
        private final int[] named = new int[CELLS];
        private int scanned = 0;
        private int faultPosition = 0;
        private int faultReason = 0;

        private void append(int character) {
            put(characters, length, character);
            length++;
        }

        private void scan() {
            for (int index = 0; index < CELLS; index++) {
                put(table, index, 0);
                put(named, index, 0);
            }
            scanned = 0;
            faultReason = 0;
            faultPosition = 0;
            while (faultPosition < length && faultReason == 0) {
                faultReason = entryFault(faultPosition);
                if (faultReason == 0) {
                    takeEntry(faultPosition);
                    faultPosition += Math.max(1, entryLength(faultPosition));
                }
            }
        }

        private int entryFault(int start) {
            if (entryLength(start) == 0) {
                return 1;
            }
            if (!isTrack(digitAt(start))) {
                return 2;
            }
            if (!isCell(digitAt(start), digitAt(start + 1))) {
                return 3;
            }
            if (amount(start) > GREATEST_CORRECTION) {
                return 4;
            }
            return at(named, entryCell(start)) != 0 ? 5 : 0;
        }

        private void takeEntry(int start) {
            int amount = amount(start);
            put(table, entryCell(start), characterAt(start + 2) == '-' ? -amount : amount);
            put(named, entryCell(start), 1);
            scanned++;
        }

        /** How many characters an entry has, its ";" included; 0 if it is not of the form. */
        private int entryLength(int start) {
            int sign = characterAt(start + 2);
            if (!isDigit(start) || !isDigit(start + 1) || (sign != '+' && sign != '-')
                    || !isDigit(start + 3)) {
                return 0;
            }
            int end = isDigit(start + 4) ? start + 5 : start + 4;
            return characterAt(end) == ';' ? end + 1 - start : 0;
        }

        private int amount(int start) {
            int first = digitAt(start + 3);
            return isDigit(start + 4) ? first * 10 + digitAt(start + 4) : first;
        }

        private int entryCell(int start) {
            return cell(digitAt(start), digitAt(start + 1));
        }

        private int characterAt(int position) {
            return position < length ? at(characters, position) : 0;
        }

        private boolean isDigit(int position) {
            return !isOutside(characterAt(position), '0', '9');
        }

        private int digitAt(int position) {
            return characterAt(position) - '0';
        }
    }
}
