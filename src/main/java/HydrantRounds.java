import java.util.Arrays;

/** Flushing rounds of crews in a water network of three pressure zones, hour by hour. */
public final class HydrantRounds {
    public static final int NONE = -1;

    private static final int ZONES = 3;
    private static final int VALVES = ZONES - 1;
    private static final int ZONE_STREETS = 4;
    private static final int STREETS = ZONES * ZONE_STREETS;
    private static final int CREWS = 3;
    private static final int ROUND_STREETS = 8;

    private static final int MOST_PRESSURE = 99;
    private static final int FIRST_PRESSURE = 40;
    private static final int MOST_DIRT = 999;
    private static final int LEAST_TAKES = 1;
    private static final int MOST_TAKES = 30;
    private static final int FIRST_TAKES = 10;
    private static final int CARRIED_PART = 10;

    private static final int CLEAN_DIRT = 0;
    private static final int NEEDED_PRESSURE = 1;
    private static final int FLUSH_FACTOR = 2;
    private static final int HOURLY_DIRT = 3;
    private static final int SETTINGS = 4;
    private static final int[] FIRST_SETTINGS = {20, 15, 2, 1};
    private static final int[] LEAST_SETTINGS = {0, 0, 1, 0};
    private static final int[] MOST_SETTINGS = {99, 60, 9, 20};

    private static final int WORKS = 0;
    private static final int STREET_TAKEN = 1;
    private static final int PRESSURE_TOO_LOW = 2;
    private static final int BROWN_AHEAD = 3;

    private static final int MOST_HOURS = 48;
    private static final int BEST_STREET_HOURS = 12;
    private static final int MOST_CLEAR_HOURS = 200;
    private static final int DIGEST_HOURS = 6;

    private static final int MOST_SAVED = 6;
    private static final int MOST_CODES = 60;
    private static final int LEAST_CODE = 33;
    private static final int MOST_CODE = 126;

    private static final int STREET_NUMBERS = 8;
    private static final int COUNTS = 9;
    private static final int OUTCOMES = 4;
    private static final long FIRST_HASH = 3169L;

    private final State now;
    // Looks that play hours through do so on this copy: a new one a call would fill the room.
    private final State trial;
    private final Hour hour;
    private final History history;
    private final RoundsText text;

    public HydrantRounds() {
        now = new State();
        trial = new State();
        hour = new Hour();
        history = new History();
        text = new RoundsText();
    }

    // ---- zones, streets

    public int pressure(int zone, int pressure) throws IndexOutOfBoundsException, IllegalArgumentException {
        requireIndex(zone, ZONES);
        requireRange(pressure, 0, MOST_PRESSURE);
        history.keep(now);
        int previous = now.zonePressure[zone];
        now.zonePressure[zone] = pressure;
        return previous;
    }

    public int valve(int zone, boolean isOpen) throws IndexOutOfBoundsException {
        requireIndex(zone, VALVES);
        history.keep(now);
        boolean wasOpen = now.valveOpen[zone];
        now.valveOpen[zone] = isOpen;
        return wasOpen ? 1 : 0;
    }

    public int dirt(int street, int dirt) throws IndexOutOfBoundsException, IllegalArgumentException {
        requireIndex(street, STREETS);
        requireRange(dirt, 0, MOST_DIRT);
        history.keep(now);
        int previous = now.dirtIn[street];
        now.dirtIn[street] = dirt;
        return previous;
    }

    public int hydrant(int street, int takes) throws IndexOutOfBoundsException, IllegalArgumentException {
        requireIndex(street, STREETS);
        requireRange(takes, LEAST_TAKES, MOST_TAKES);
        history.keep(now);
        int previous = now.takes[street];
        now.takes[street] = takes;
        return previous;
    }

    // ---- crews

    public int send(int crew, int street) throws IndexOutOfBoundsException, IllegalStateException {
        requireIndex(crew, CREWS);
        requireIndex(street, STREETS);
        if (now.tours[crew].isFull()) {
            throw new IllegalStateException("the round is full");
        }
        history.keep(now);
        now.tours[crew].putLast(street);
        return now.tours[crew].length;
    }

    public int skip(int crew) throws IndexOutOfBoundsException {
        requireIndex(crew, CREWS);
        history.keep(now);
        int skipped = now.tours[crew].at(0);
        now.tours[crew].dropFirst();
        return skipped;
    }

    public int set(int setting, int value) throws IndexOutOfBoundsException, IllegalArgumentException {
        requireIndex(setting, SETTINGS);
        requireRange(value, LEAST_SETTINGS[setting], MOST_SETTINGS[setting]);
        history.keep(now);
        int previous = now.settings[setting];
        now.settings[setting] = value;
        return previous;
    }

    public int pass(int hours) throws IllegalArgumentException {
        requireRange(hours, 1, MOST_HOURS);
        history.keep(now);
        return hour.playMany(now, hours);
    }

    // ---- texts

    public int append(int code) throws IllegalArgumentException, IllegalStateException {
        requireRange(code, LEAST_CODE, MOST_CODE);
        if (text.isFull()) {
            throw new IllegalStateException("the buffer is full");
        }
        text.putLast(code);
        return text.length;
    }

    public int clearBuffer() {
        int previous = text.length;
        text.empty();
        return previous;
    }

    public int firstError() {
        return text.findError();
    }

    public int rounds() throws IllegalArgumentException {
        if (!text.isComplete()) {
            throw new IllegalArgumentException("no complete rounds");
        }
        history.keep(now);
        text.giveTo(now);
        text.empty();
        return now.streetsInTours();
    }

    public int undo() throws IllegalStateException {
        if (history.kept == 0) {
            throw new IllegalStateException("no saved state");
        }
        history.restore(now);
        return history.kept;
    }

    // ---- looks; nothing is changed

    public int street(int street, int what) throws IndexOutOfBoundsException, IllegalArgumentException {
        requireIndex(street, STREETS);
        requireRange(what, 0, STREET_NUMBERS - 1);
        switch (what) {
            case 0:
                return now.dirtIn[street];
            case 1:
                return now.takes[street];
            case 2:
                return now.isBrown(street) ? 1 : 0;
            case 3:
                hour.shutAll();
                return now.pressureAt(street, hour.drawn);
            case 4:
                return now.sourceOf(street);
            case 5:
                return now.complaints[street];
            case 6:
                return now.flushed[street];
            default:
                return now.openHours[street];
        }
    }

    public int round(int crew, int place) throws IndexOutOfBoundsException, IllegalArgumentException {
        requireIndex(crew, CREWS);
        if (place < 0) {
            throw new IllegalArgumentException("no such place");
        }
        return now.tours[crew].at(place);
    }

    public int count(int what) throws IllegalArgumentException {
        requireRange(what, 0, COUNTS - 1);
        switch (what) {
            case 0:
                return now.hours;
            case 1:
                return sum(now.dirtIn);
            case 2:
                return now.brownStreets();
            case 3:
                return sum(now.complaints);
            case 4:
                return sum(now.flushed);
            case 5:
                return now.waitedHours;
            case 6:
                return now.streetsInTours();
            case 7:
                return now.lostDirt;
            default:
                return history.kept;
        }
    }

    public int setting(int setting) throws IndexOutOfBoundsException {
        requireIndex(setting, SETTINGS);
        return now.settings[setting];
    }

    public int waits(int crew) throws IndexOutOfBoundsException {
        requireIndex(crew, CREWS);
        hour.openHydrants(now);
        return hour.reasons[crew];
    }

    // ---- what would be; nothing is changed

    public int ifPassed(int hours, int what) throws IllegalArgumentException {
        requireRange(hours, 1, MOST_HOURS);
        requireRange(what, 0, OUTCOMES - 1);
        trial.copyFrom(now);
        int complaints = hour.playMany(trial, hours);
        switch (what) {
            case 0:
                return complaints;
            case 1:
                return sum(trial.flushed) - sum(now.flushed);
            case 2:
                return trial.brownStreets();
            default:
                return trial.streetsInTours();
        }
    }

    public int bestStreet() {
        int best = NONE;
        int fewest = 0;
        for (int street = 0; street < STREETS; street++) {
            trial.copyFrom(now);
            trial.flushOnly(street);
            int complaints = hour.playMany(trial, BEST_STREET_HOURS);
            if (best == NONE || complaints < fewest) {
                fewest = complaints;
                best = street;
            }
        }
        return best;
    }

    public int clearIn() {
        trial.copyFrom(now);
        for (int hours = 0; hours <= MOST_CLEAR_HOURS; hours++) {
            if (trial.brownStreets() == 0) {
                return hours;
            }
            hour.play(trial);
        }
        return NONE;
    }

    public int leastPressure(int street) throws IndexOutOfBoundsException {
        requireIndex(street, STREETS);
        trial.copyFrom(now);
        hour.shutAll();
        hour.drawn[street / ZONE_STREETS] = now.takes[street];
        for (int pressure = 0; pressure <= MOST_PRESSURE; pressure++) {
            trial.zonePressure[street / ZONE_STREETS] = pressure;
            if (trial.pressureAt(street, hour.drawn) >= now.settings[NEEDED_PRESSURE]) {
                return pressure;
            }
        }
        return NONE;
    }

    public double cleanShare() {
        return (double) (STREETS - now.brownStreets()) / STREETS;
    }

    public long digest() {
        long hash = FIRST_HASH;
        for (int what = 0; what < COUNTS; what++) {
            hash = mixed(hash, count(what));
        }
        for (int setting = 0; setting < SETTINGS; setting++) {
            hash = mixed(hash, now.settings[setting]);
        }
        hash = hashOfZones(hash);
        hash = hashOfStreets(hash);
        hash = hashOfCrews(hash);
        for (int what = 0; what < OUTCOMES; what++) {
            hash = mixed(hash, ifPassed(DIGEST_HOURS, what));
        }
        hash = mixed(hash, bestStreet());
        hash = mixed(hash, clearIn());
        hash = mixed(hash, shareBits(STREETS - now.brownStreets()));
        return hashOfText(hash);
    }

    private long hashOfZones(long before) {
        long hash = before;
        for (int zone = 0; zone < ZONES; zone++) {
            hash = mixed(hash, now.zonePressure[zone]);
        }
        for (int valve = 0; valve < VALVES; valve++) {
            hash = mixed(hash, now.valveOpen[valve] ? 1 : 0);
        }
        return hash;
    }

    private long hashOfStreets(long before) {
        long hash = before;
        for (int street = 0; street < STREETS; street++) {
            for (int what = 0; what < STREET_NUMBERS; what++) {
                hash = mixed(hash, street(street, what));
            }
            hash = mixed(hash, now.wasBrown[street] ? 1 : 0);
            hash = mixed(hash, leastPressure(street));
        }
        return hash;
    }

    private long hashOfCrews(long before) {
        long hash = before;
        for (int crew = 0; crew < CREWS; crew++) {
            hash = mixed(hash, waits(crew));
            for (int place = 0; place < now.tours[crew].length; place++) {
                hash = mixed(hash, now.tours[crew].at(place));
            }
        }
        return hash;
    }

    private long hashOfText(long before) {
        long hash = mixed(before, text.length);
        for (int index = 0; index < text.length && index < MOST_CODES; index++) {
            hash = mixed(hash, text.codes[index]);
        }
        return hash;
    }

    private static long mixed(long hash, long value) {
        return 31L * hash + value;
    }

    // The language leaves out Double.doubleToLongBits: these are the bits of clean / 12, by its fraction of 53 bits.
    private static long shareBits(int clean) {
        if (clean <= 0) {
            return 0L;
        }
        long unit = 1L << 52;
        int shift = 52;
        while (shift < 56 && ((long) clean << shift) / STREETS < unit) {
            shift++;
        }
        // Twelfths never lie halfway between two fractions, so half of a divisor more rounds as doubles do.
        long fraction = (((long) clean << shift) + STREETS / 2) / STREETS;
        return ((long) (1023 + 52 - shift) << 52) + (fraction - unit);
    }

    private static void requireIndex(int index, int length) {
        if (index < 0 || index >= length) {
            throw new IndexOutOfBoundsException("no such number");
        }
    }

    private static void requireRange(int value, int least, int most) {
        if (value < least || value > most) {
            throw new IllegalArgumentException("out of range");
        }
    }

    private static int sum(int[] numbers) {
        int total = 0;
        for (int number : numbers) {
            total += number;
        }
        return total;
    }

    /** The round of a crew; it has another name as `round` is a call of the face. */
    private static final class Tour {
        private final int[] streets;
        private int length;

        Tour() {
            streets = new int[ROUND_STREETS];
            length = 0;
        }

        boolean isFull() {
            return length >= ROUND_STREETS;
        }

        int at(int place) {
            return place >= 0 && place < length && place < ROUND_STREETS ? streets[place] : NONE;
        }

        void putLast(int street) {
            if (length >= 0 && length < ROUND_STREETS) {
                streets[length] = street;
                length++;
            }
        }

        void dropFirst() {
            if (length <= 0) {
                return;
            }
            for (int place = 1; place < ROUND_STREETS; place++) {
                streets[place - 1] = streets[place];
            }
            length--;
        }

        void empty() {
            length = 0;
        }

        void copyFrom(Tour other) {
            System.arraycopy(other.streets, 0, streets, 0, ROUND_STREETS);
            length = other.length;
        }
    }

    /** All that undo brings back. */
    private static final class State {
        private final int[] zonePressure;
        private final boolean[] valveOpen;
        private final int[] settings;
        private final int[] dirtIn;
        private final int[] takes;
        private final boolean[] wasBrown;
        private final int[] complaints;
        private final int[] flushed;
        private final int[] openHours;
        private final Tour[] tours;
        private int hours;
        private int waitedHours;
        private int lostDirt;

        State() {
            zonePressure = new int[ZONES];
            Arrays.fill(zonePressure, FIRST_PRESSURE);
            valveOpen = new boolean[VALVES];
            settings = new int[SETTINGS];
            System.arraycopy(FIRST_SETTINGS, 0, settings, 0, SETTINGS);
            dirtIn = new int[STREETS];
            takes = new int[STREETS];
            Arrays.fill(takes, FIRST_TAKES);
            wasBrown = new boolean[STREETS];
            complaints = new int[STREETS];
            flushed = new int[STREETS];
            openHours = new int[STREETS];
            tours = new Tour[CREWS];
            for (int crew = 0; crew < CREWS; crew++) {
                tours[crew] = new Tour();
            }
        }

        void copyFrom(State other) {
            System.arraycopy(other.zonePressure, 0, zonePressure, 0, ZONES);
            System.arraycopy(other.valveOpen, 0, valveOpen, 0, VALVES);
            System.arraycopy(other.settings, 0, settings, 0, SETTINGS);
            System.arraycopy(other.dirtIn, 0, dirtIn, 0, STREETS);
            System.arraycopy(other.takes, 0, takes, 0, STREETS);
            System.arraycopy(other.wasBrown, 0, wasBrown, 0, STREETS);
            System.arraycopy(other.complaints, 0, complaints, 0, STREETS);
            System.arraycopy(other.flushed, 0, flushed, 0, STREETS);
            System.arraycopy(other.openHours, 0, openHours, 0, STREETS);
            for (int crew = 0; crew < CREWS; crew++) {
                tours[crew].copyFrom(other.tours[crew]);
            }
            hours = other.hours;
            waitedHours = other.waitedHours;
            lostDirt = other.lostDirt;
        }

        boolean isBrown(int street) {
            return dirtIn[street] > settings[CLEAN_DIRT];
        }

        int brownStreets() {
            int brown = 0;
            for (int street = 0; street < STREETS; street++) {
                if (isBrown(street)) {
                    brown++;
                }
            }
            return brown;
        }

        int streetsInTours() {
            int total = 0;
            for (int crew = 0; crew < CREWS; crew++) {
                total += tours[crew].length;
            }
            return total;
        }

        int sourceOf(int street) {
            int zone = street / ZONE_STREETS;
            boolean isFirst = street % ZONE_STREETS == 0;
            if (isFirst && (zone == 0 || !valveOpen[zone - 1])) {
                return NONE;
            }
            return street - 1;
        }

        int fedBy(int street) {
            int next = street + 1;
            return next < STREETS && sourceOf(next) == street ? next : NONE;
        }

        // What is drawn in each zone is told by the caller: looks ask for hydrants that are not open.
        int pressureAt(int street, int[] drawn) {
            int zone = street / ZONE_STREETS;
            int lowest = zonePressure[zone] - street % ZONE_STREETS - drawn[zone];
            for (int ahead = zone - 1; ahead >= 0 && valveOpen[ahead]; ahead--) {
                int atLast = zonePressure[ahead] - (ZONE_STREETS - 1) - drawn[ahead];
                lowest = atLast < lowest ? atLast : lowest;
            }
            // Once is enough: where the pressure ahead is below 0, the lowest one is.
            return lowest < 0 ? 0 : lowest;
        }

        void addDirt(int street, int more) {
            int all = dirtIn[street] + more;
            int kept = Math.min(all, MOST_DIRT);
            dirtIn[street] = kept;
            lostDirt += all - kept;
        }

        void flushOnly(int street) {
            for (int crew = 0; crew < CREWS; crew++) {
                tours[crew].empty();
            }
            tours[0].putLast(street);
        }
    }

    /** What happens in an hour; it holds only what is forgotten behind the hour. */
    private static final class Hour {
        private final int[] workers;
        private final int[] drawn;
        private final int[] reasons;

        Hour() {
            workers = new int[STREETS];
            drawn = new int[ZONES];
            reasons = new int[CREWS];
        }

        // Answers what complaints the hours brought: all that play them through ask for that.
        int playMany(State state, int hours) {
            int before = sum(state.complaints);
            for (int gone = 0; gone < hours; gone++) {
                play(state);
            }
            return sum(state.complaints) - before;
        }

        void play(State state) {
            openHydrants(state);
            for (int crew = 0; crew < CREWS; crew++) {
                if (reasons[crew] > WORKS) {
                    state.waitedHours++;
                }
            }
            flushOut(state);
            carryOn(state);
            for (int street = 0; street < STREETS; street++) {
                state.addDirt(street, state.settings[HOURLY_DIRT]);
            }
            complain(state);
            state.hours++;
        }

        void shutAll() {
            Arrays.fill(workers, NONE);
            Arrays.fill(drawn, 0);
        }

        void openHydrants(State state) {
            shutAll();
            for (int crew = 0; crew < CREWS; crew++) {
                int street = state.tours[crew].at(0);
                if (street < 0 || street >= STREETS) {
                    reasons[crew] = NONE;
                    continue;
                }
                reasons[crew] = reasonToWait(state, street);
                if (reasons[crew] == WORKS) {
                    workers[street] = crew;
                    drawn[street / ZONE_STREETS] += state.takes[street];
                }
            }
        }

        private int reasonToWait(State state, int street) {
            if (workers[street] != NONE) {
                return STREET_TAKEN;
            }
            int zone = street / ZONE_STREETS;
            drawn[zone] += state.takes[street];
            int pressure = state.pressureAt(street, drawn);
            drawn[zone] -= state.takes[street];
            if (pressure < state.settings[NEEDED_PRESSURE]) {
                return PRESSURE_TOO_LOW;
            }
            int source = state.sourceOf(street);
            return source >= 0 && state.isBrown(source) ? BROWN_AHEAD : WORKS;
        }

        private void flushOut(State state) {
            for (int street = 0; street < STREETS; street++) {
                int crew = workers[street];
                if (crew < 0 || crew >= CREWS) {
                    continue;
                }
                int most = state.pressureAt(street, drawn) * state.settings[FLUSH_FACTOR];
                int out = Math.min(most, state.dirtIn[street]);
                state.dirtIn[street] -= out;
                state.flushed[street] += out;
                state.openHours[street]++;
                // The rest of the hour asks no round, so the street may leave its round here.
                if (state.dirtIn[street] == 0) {
                    state.tours[crew].dropFirst();
                }
            }
        }

        private void carryOn(State state) {
            for (int street = STREETS - 1; street >= 0; street--) {
                int next = state.fedBy(street);
                if (next >= 0 && workers[street] == NONE) {
                    int carried = state.dirtIn[street] / CARRIED_PART;
                    state.dirtIn[street] -= carried;
                    state.addDirt(next, carried);
                }
            }
        }

        private void complain(State state) {
            for (int street = 0; street < STREETS; street++) {
                boolean brown = state.isBrown(street);
                if (brown) {
                    state.complaints[street] += state.wasBrown[street] ? 2 : 1;
                }
                state.wasBrown[street] = brown;
            }
        }
    }

    /** The saved states, the oldest first; all are made once and written over. */
    private static final class History {
        private final State[] states;
        private int kept;

        History() {
            states = new State[MOST_SAVED];
            for (int place = 0; place < MOST_SAVED; place++) {
                states[place] = new State();
            }
            kept = 0;
        }

        void keep(State state) {
            if (kept >= MOST_SAVED) {
                dropOldest();
            }
            if (kept >= 0 && kept < MOST_SAVED) {
                states[kept].copyFrom(state);
                kept++;
            }
        }

        void restore(State state) {
            if (kept > 0 && kept <= MOST_SAVED) {
                kept--;
                state.copyFrom(states[kept]);
            }
        }

        private void dropOldest() {
            State oldest = states[0];
            for (int place = 1; place < MOST_SAVED; place++) {
                states[place - 1] = states[place];
            }
            states[MOST_SAVED - 1] = oldest;
            kept = MOST_SAVED - 1;
        }
    }

    /** The buffer, read as rounds. */
    private static final class RoundsText {
        private static final int AT_CREW = 0;
        private static final int AT_STREET = 1;
        private static final int BEHIND_ONE = 2;
        private static final int BEHIND_STREET = 3;

        private final int[] codes;
        private int length;
        private int place;
        private int partStreets;

        RoundsText() {
            codes = new int[MOST_CODES];
            length = 0;
            place = AT_CREW;
            partStreets = 0;
        }

        boolean isFull() {
            return length >= MOST_CODES;
        }

        void putLast(int code) {
            if (length >= 0 && length < MOST_CODES) {
                codes[length] = code;
                length++;
            }
        }

        void empty() {
            length = 0;
        }

        int findError() {
            place = AT_CREW;
            for (int index = 0; index < length && index < MOST_CODES; index++) {
                if (!canTake(codes[index])) {
                    return index;
                }
            }
            return length;
        }

        boolean isComplete() {
            return findError() == length && (place == BEHIND_ONE || place == BEHIND_STREET);
        }

        // Only a complete text comes here, so that each sign is known by its kind.
        void giveTo(State state) {
            int crew = 0;
            int street = 0;
            for (int index = 0; index < length && index < MOST_CODES; index++) {
                int code = codes[index];
                if (isCrew(code)) {
                    crew = code - 'a';
                    state.tours[crew].empty();
                } else if (isDigit(code)) {
                    street = street * 10 + (code - '0');
                } else {
                    state.tours[crew].putLast(street);
                    street = 0;
                }
            }
            state.tours[crew].putLast(street);
        }

        private boolean canTake(int code) {
            switch (place) {
                case AT_CREW:
                    partStreets = 0;
                    place = AT_STREET;
                    return isCrew(code);
                case AT_STREET:
                    partStreets++;
                    place = code == '1' ? BEHIND_ONE : BEHIND_STREET;
                    return isDigit(code);
                case BEHIND_ONE:
                    if (code == '0' || code == '1') {
                        place = BEHIND_STREET;
                        return true;
                    }
                    return canSeparate(code);
                default:
                    return canSeparate(code);
            }
        }

        private boolean canSeparate(int code) {
            place = code == ';' ? AT_CREW : AT_STREET;
            return code == ';' || code == ',' && partStreets < ROUND_STREETS;
        }

        private static boolean isCrew(int code) {
            return code >= 'a' && code < 'a' + CREWS;
        }

        private static boolean isDigit(int code) {
            return code >= '0' && code <= '9';
        }
    }
}
