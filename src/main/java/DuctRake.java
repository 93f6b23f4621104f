/** A rake of holes across a round duct; ../shared/DOC.md says what each call answers and changes. */
public final class DuctRake {
    public static final int NONE = -1;

    private static final int LEAST_HOLES = 2;
    private static final int MOST_HOLES = 8;
    private static final int FIRST_HOLES = 4;
    private static final int LEAST_RADIUS = 50;
    private static final int MOST_RADIUS = 500;
    private static final int FIRST_RADIUS = 100;
    private static final int HUNDRED = 100;
    private static final int HEAD_SCALE = 10000;
    private static final int MOST_READINGS = 12;
    private static final int MOST_SAVED = 6;
    private static final int MOST_CODES = 50;
    private static final int LEAST_CODE = 33;
    private static final int MOST_CODE = 126;
    private static final int MOST_DIGITS = 5;
    private static final int MOST_DIFFERENCE = 99999;

    private static final int MIDDLE_SPEED = 0;
    private static final int LESS_AT_WALL = 1;
    private static final int SWIRL = 2;
    private static final int LEAST_SHARE = 3;
    private static final int LEAK_ALLOWED = 4;
    private static final int SETTINGS = 5;
    private static final int[] FIRST_VALUES = {8000, 40, 0, 50, 5};
    private static final int[] MOST_VALUES = {20000, 100, 2000, 100, 50};

    private static final int NO_TEST = 0;
    private static final int TEST_PASSED = 1;
    private static final int TEST_FAILED = 2;

    private static final int TRUSTED = 0;
    private static final int NOTHING_COUNTS = 1;
    private static final int MEAN_IS_ZERO = 2;
    private static final int MEAN_IS_LOW = 3;
    private static final int FAILED_ITS_TEST = 4;

    private static final int WORK_OF_READING = 5;
    private static final int WORK_OF_TEST = 3;
    private static final int WORK_OF_CLEANING = 2;
    private static final int WORK_OF_LEAK = 4;

    private static final int MOST_OF_HOLE = 11;
    private static final int MOST_OF_READING = 10;
    private static final int MOST_OF_FLOW = 3;
    private static final int MOST_OF_COUNT = 13;
    private static final int DIGEST_START = 3167;
    private static final int DIGEST_DIFFERENCE = 1000;

    private final State now;
    private final SavedStates saved;
    private final Slot firstSlot;
    private final Slot secondSlot;
    private final TextBuffer buffer;
    private final Told toldNow;
    private final Told toldIfRight;
    private final int[] newHeads;

    public DuctRake() {
        now = new State();
        saved = new SavedStates();
        firstSlot = new Slot();
        secondSlot = new Slot();
        buffer = new TextBuffer();
        toldNow = new Told();
        toldIfRight = new Told();
        newHeads = new int[MOST_HOLES];
    }

    // ---- the rake

    public int rake(int holes) throws IllegalArgumentException {
        if (isNoRake(holes)) {
            throw new IllegalArgumentException("holes is not 2 to 8");
        }
        saved.push(now);
        int before = now.holes;
        now.putRake(holes);
        return before;
    }

    public int radius(int radius) throws IllegalArgumentException {
        if (radius < LEAST_RADIUS || radius > MOST_RADIUS) {
            throw new IllegalArgumentException("radius is not 50 to 500");
        }
        saved.push(now);
        int before = now.radius;
        now.radius = radius;
        return before;
    }

    public int block(int hole, int passes) throws IndexOutOfBoundsException, IllegalArgumentException {
        if (isNoHole(hole)) {
            throw new IndexOutOfBoundsException("there is no such hole");
        }
        if (passes < 0 || passes > HUNDRED) {
            throw new IllegalArgumentException("passes is not 0 to 100");
        }
        saved.push(now);
        int before = Rows.at(now.passes, hole);
        Rows.put(now.passes, hole, passes);
        return before;
    }

    public int leak(int hole, int leak) throws IndexOutOfBoundsException, IllegalArgumentException {
        if (isNoHole(hole)) {
            throw new IndexOutOfBoundsException("there is no such hole");
        }
        if (leak < 0 || leak > HUNDRED) {
            throw new IllegalArgumentException("leak is not 0 to 100");
        }
        saved.push(now);
        int before = Rows.at(now.leaks, hole);
        Rows.put(now.leaks, hole, leak);
        return before;
    }

    public int clean(int hole) throws IndexOutOfBoundsException {
        if (isNoHole(hole)) {
            throw new IndexOutOfBoundsException("there is no such hole");
        }
        saved.push(now);
        int work = now.workOfCleaning(hole);
        now.clearHole(hole);
        now.addHoleWork(hole, work);
        return work;
    }

    public int test(int hole) throws IndexOutOfBoundsException {
        if (isNoHole(hole)) {
            throw new IndexOutOfBoundsException("there is no such hole");
        }
        saved.push(now);
        boolean fails = Rows.at(now.leaks, hole) > Rows.at(now.settings, LEAK_ALLOWED);
        int result = fails ? TEST_FAILED : TEST_PASSED;
        Rows.put(now.tests, hole, result);
        now.addHoleWork(hole, WORK_OF_TEST);
        return result;
    }

    // ---- readings

    public int read() {
        saved.push(now);
        for (int k = 0; k < now.holes; k++) {
            Rows.put(newHeads, k, TrueFlow.feltAt(now, k, TrueFlow.headAt(now, k)));
        }
        now.takeReading(newHeads, now.holes);
        return now.readings.kept;
    }

    public int drop(int reading) throws IndexOutOfBoundsException {
        if (isNoReading(reading)) {
            throw new IndexOutOfBoundsException("there is no such reading");
        }
        saved.push(now);
        now.readings.remove(reading);
        return now.readings.kept;
    }

    public int set(int setting, int value) throws IndexOutOfBoundsException, IllegalArgumentException {
        if (isNoSetting(setting)) {
            throw new IndexOutOfBoundsException("there is no such setting");
        }
        if (value < 0 || value > Rows.at(MOST_VALUES, setting)) {
            throw new IllegalArgumentException("value is out of range");
        }
        saved.push(now);
        int before = Rows.at(now.settings, setting);
        Rows.put(now.settings, setting, value);
        return before;
    }

    // ---- texts, snapshots

    public int append(int code) throws IllegalArgumentException, IllegalStateException {
        if (code < LEAST_CODE || code > MOST_CODE) {
            throw new IllegalArgumentException("code is not 33 to 126");
        }
        if (buffer.length >= MOST_CODES) {
            throw new IllegalStateException("the buffer has 50 characters");
        }
        buffer.add(code);
        return buffer.length;
    }

    public int clearBuffer() {
        int before = buffer.length;
        buffer.length = 0;
        return before;
    }

    public int firstError() {
        return buffer.firstWrong();
    }

    public int load() throws IllegalArgumentException {
        if (!buffer.tellsReading()) {
            throw new IllegalArgumentException("the buffer does not tell a reading as a text");
        }
        saved.push(now);
        int size = buffer.headsInto(newHeads);
        now.takeReading(newHeads, size);
        buffer.length = 0;
        return size;
    }

    public int keep(int slot) throws IllegalArgumentException {
        if (isNoSlot(slot)) {
            throw new IllegalArgumentException("slot is not 0 or 1");
        }
        Slot chosen = slotOf(slot);
        chosen.snapshot.become(now);
        chosen.filled = true;
        return now.readings.kept;
    }

    public int goBack(int slot) throws IllegalArgumentException, IllegalStateException {
        if (isNoSlot(slot)) {
            throw new IllegalArgumentException("slot is not 0 or 1");
        }
        Slot chosen = slotOf(slot);
        if (!chosen.filled) {
            throw new IllegalStateException("there is no snapshot in the slot");
        }
        saved.push(now);
        now.become(chosen.snapshot);
        return now.readings.kept;
    }

    public int undo() throws IllegalStateException {
        if (saved.kept == 0) {
            throw new IllegalStateException("there is no saved state");
        }
        saved.popInto(now);
        return saved.kept;
    }

    // ---- looks; nothing is changed

    public int hole(int hole, int what) throws IndexOutOfBoundsException, IllegalArgumentException {
        if (isNoHole(hole)) {
            throw new IndexOutOfBoundsException("there is no such hole");
        }
        if (what < 0 || what > MOST_OF_HOLE) {
            throw new IllegalArgumentException("what is not 0 to 11");
        }
        toldNow.judge(now);
        return holeValue(hole, what, toldNow);
    }

    public int reading(int reading, int what) throws IndexOutOfBoundsException, IllegalArgumentException {
        if (isNoReading(reading)) {
            throw new IndexOutOfBoundsException("there is no such reading");
        }
        if (what < 0 || what > MOST_OF_READING) {
            throw new IllegalArgumentException("what is not 0 to 10");
        }
        return readingValue(reading, what);
    }

    public int flow(int what) throws IllegalArgumentException {
        if (what < 0 || what > MOST_OF_FLOW) {
            throw new IllegalArgumentException("what is not 0 to 3");
        }
        toldNow.judge(now);
        return flowValue(what, toldNow);
    }

    public int count(int what) throws IllegalArgumentException {
        if (what < 0 || what > MOST_OF_COUNT) {
            throw new IllegalArgumentException("what is not 0 to 13");
        }
        toldNow.judge(now);
        return countValue(what, toldNow);
    }

    public int setting(int setting) throws IndexOutOfBoundsException {
        if (isNoSetting(setting)) {
            throw new IndexOutOfBoundsException("there is no such setting");
        }
        return Rows.at(now.settings, setting);
    }

    // ---- what would be; nothing is changed

    public int ifRight(int hole) throws IndexOutOfBoundsException {
        if (isNoHole(hole)) {
            throw new IndexOutOfBoundsException("there is no such hole");
        }
        return wholeIfRight(hole);
    }

    public int worst() {
        toldNow.judge(now);
        return worstHole(toldNow);
    }

    public int ifRake(int holes) throws IllegalArgumentException {
        if (isNoRake(holes)) {
            throw new IllegalArgumentException("holes is not 2 to 8");
        }
        return TrueFlow.whole(now, holes);
    }

    public int fineRake(int most) throws IllegalArgumentException {
        if (most < 0 || most > MOST_DIFFERENCE) {
            throw new IllegalArgumentException("most is not 0 to 99999");
        }
        return fewestHoles(most);
    }

    public double evenness() {
        toldNow.judge(now);
        return toldNow.leastByGreatest();
    }

    public long digest() {
        toldNow.judge(now);
        long hash = DIGEST_START;
        for (int what = 0; what <= MOST_OF_COUNT; what++) {
            hash = mixed(hash, countValue(what, toldNow));
        }
        for (int setting = 0; setting < SETTINGS; setting++) {
            hash = mixed(hash, Rows.at(now.settings, setting));
        }
        hash = mixedWithHoles(hash, toldNow);
        hash = mixedWithReadings(hash);
        for (int what = 0; what <= MOST_OF_FLOW; what++) {
            hash = mixed(hash, flowValue(what, toldNow));
        }
        hash = mixed(hash, worstHole(toldNow));
        for (int holes = LEAST_HOLES; holes <= MOST_HOLES; holes++) {
            hash = mixed(hash, TrueFlow.whole(now, holes));
        }
        hash = mixed(hash, fewestHoles(DIGEST_DIFFERENCE));
        hash = mixed(hash, Numbers.bitsOfShare(toldNow.leastByGreatest()));
        hash = mixed(hash, firstSlot.filled ? 1 : 0);
        hash = mixed(hash, secondSlot.filled ? 1 : 0);
        return mixedWithBuffer(hash);
    }

    // ---- what the calls are made of

    private static boolean isNoRake(int holes) {
        return holes < LEAST_HOLES || holes > MOST_HOLES;
    }

    private static boolean isNoSetting(int setting) {
        return setting < 0 || setting >= SETTINGS;
    }

    private static boolean isNoSlot(int slot) {
        return slot < 0 || slot > 1;
    }

    private boolean isNoHole(int hole) {
        return hole < 0 || hole >= now.holes;
    }

    private boolean isNoReading(int reading) {
        return reading < 0 || reading >= now.readings.kept;
    }

    private Slot slotOf(int slot) {
        return slot == 0 ? firstSlot : secondSlot;
    }

    private int holeValue(int hole, int what, Told told) {
        switch (what) {
            case 0:
                return TrueFlow.distance(now.radius, hole, now.holes);
            case 1:
                return Rows.at(now.passes, hole);
            case 2:
                return Rows.at(now.leaks, hole);
            case 3:
                return Rows.at(now.tests, hole);
            case 4:
                return TrueFlow.speedAt(now, hole, now.holes);
            case 5:
                return TrueFlow.headAt(now, hole);
            case 6:
                return TrueFlow.feltAt(now, hole, TrueFlow.headAt(now, hole));
            case 7:
                return told.counting == 0 ? NONE : Rows.at(told.means, hole);
            case 8:
                return Rows.at(told.reasons, hole);
            case 9:
                return told.trusted == 0 ? NONE : Rows.at(told.speeds, hole);
            case 10:
                return told.flowOfRings(hole, hole + 1);
            default:
                return Rows.at(now.works, hole);
        }
    }

    private int readingValue(int reading, int what) {
        Readings readings = now.readings;
        switch (what) {
            case 8:
                return Rows.at(readings.sizes, reading);
            case 9:
                return Rows.at(readings.radii, reading);
            case 10:
                return readings.isCounting(reading, now.holes, now.radius) ? 1 : 0;
            default:
                return what < Rows.at(readings.sizes, reading) ? readings.headOf(reading, what) : NONE;
        }
    }

    private int flowValue(int what, Told told) {
        int half = now.holes / 2;
        switch (what) {
            case 0:
                return told.flowOfRings(0, now.holes);
            case 1:
                return told.flowOfRings(0, half);
            case 2:
                return told.flowOfRings(half, now.holes);
            default:
                return TrueFlow.whole(now, now.holes);
        }
    }

    private int countValue(int what, Told told) {
        switch (what) {
            case 0:
                return now.holes;
            case 1:
                return now.radius;
            case 2:
                return now.readings.kept;
            case 3:
                return told.counting;
            case 4:
                return told.trusted;
            case 5:
                return told.countOfReason(NOTHING_COUNTS);
            case 6:
                return told.countOfReason(MEAN_IS_ZERO);
            case 7:
                return told.countOfReason(MEAN_IS_LOW);
            case 8:
                return told.countOfReason(FAILED_ITS_TEST);
            case 9:
                return now.workOfReadings + now.workOfOldRakes + now.workOfHoles();
            case 10:
                return now.workOfReadings;
            case 11:
                return now.workOfOldRakes;
            case 12:
                return now.readingsSoFar;
            default:
                return saved.kept;
        }
    }

    private int wholeIfRight(int hole) {
        toldIfRight.judgeIfRight(now, hole, TrueFlow.headAt(now, hole));
        return toldIfRight.flowOfRings(0, now.holes);
    }

    private int worstHole(Told told) {
        if (told.trusted == 0) {
            return NONE;
        }
        int whole = told.flowOfRings(0, now.holes);
        int worst = NONE;
        int most = -1;
        for (int k = 0; k < now.holes; k++) {
            int ifRight = wholeIfRight(k);
            int difference = Math.abs(ifRight - whole);
            if (ifRight != NONE && difference > most) {
                most = difference;
                worst = k;
            }
        }
        return worst;
    }

    private int fewestHoles(int most) {
        int finest = TrueFlow.whole(now, MOST_HOLES);
        for (int holes = LEAST_HOLES; holes < MOST_HOLES; holes++) {
            if (Math.abs(TrueFlow.whole(now, holes) - finest) <= most) {
                return holes;
            }
        }
        return MOST_HOLES;
    }

    private static long mixed(long hash, long value) {
        return 31L * hash + value;
    }

    private long mixedWithHoles(long start, Told told) {
        long hash = start;
        for (int k = 0; k < now.holes; k++) {
            for (int what = 0; what <= MOST_OF_HOLE; what++) {
                hash = mixed(hash, holeValue(k, what, told));
            }
            hash = mixed(hash, wholeIfRight(k));
        }
        return hash;
    }

    private long mixedWithReadings(long start) {
        long hash = start;
        for (int i = 0; i < now.readings.kept; i++) {
            for (int what = 0; what <= MOST_OF_READING; what++) {
                hash = mixed(hash, readingValue(i, what));
            }
        }
        return hash;
    }

    private long mixedWithBuffer(long start) {
        long hash = mixed(start, buffer.length);
        for (int i = 0; i < buffer.length; i++) {
            hash = mixed(hash, Rows.at(buffer.codes, i));
        }
        return hash;
    }

    /** Calls reach elements of rows through here alone, so that no index is used before it is looked at. */
    private static final class Rows {
        static int at(int[] row, int index) {
            return index >= 0 && index < row.length ? row[index] : 0;
        }

        static void put(int[] row, int index, int value) {
            if (index >= 0 && index < row.length) {
                row[index] = value;
            }
        }

        static void copy(int[] from, int[] to) {
            for (int i = 0; i < from.length && i < to.length; i++) {
                to[i] = from[i];
            }
        }

        static void clear(int[] row) {
            for (int i = 0; i < row.length; i++) {
                row[i] = 0;
            }
        }
    }

    private static final class Numbers {
        /** Divides, rounded down; all that the document divides is at least 0. */
        static int quotient(int dividend, int divisor) {
            return divisor == 0 ? 0 : dividend / divisor;
        }

        static int wholeRoot(int number) {
            long root = 0;
            for (int bit = 15; bit >= 0; bit--) {
                long tried = root + (1L << bit);
                if (tried * tried <= number) {
                    root = tried;
                }
            }
            return (int) root;
        }

        /**
         * The bits of a share from 0 to 1 as Double.doubleToLongBits tells them: that method is
         * not in the library of LANGUAGE.md. Doubling and taking 1 away are exact here.
         */
        static long bitsOfShare(double share) {
            if (share <= 0.0) {
                return 0L;
            }
            double scaled = share;
            long exponent = 1023;
            for (int step = 0; step < 1022 && scaled < 1.0; step++) {
                scaled = scaled * 2.0;
                exponent--;
            }
            long fraction = (long) ((scaled - 1.0) * 4503599627370496.0);
            return (exponent << 52) + fraction;
        }
    }

    /** What the flow of the settings does at the holes, whatever readings tell. */
    private static final class TrueFlow {
        static int distance(int radius, int hole, int holes) {
            return Numbers.wholeRoot(Numbers.quotient(radius * radius * (2 * hole + 1), 2 * holes));
        }

        static int speedAt(State state, int hole, int holes) {
            int distance = distance(state.radius, hole, holes);
            int middle = Rows.at(state.settings, MIDDLE_SPEED);
            int less = middle * Rows.at(state.settings, LESS_AT_WALL) * distance;
            int swirl = Rows.at(state.settings, SWIRL) * distance;
            return middle - Numbers.quotient(less, HUNDRED * state.radius) + Numbers.quotient(swirl, state.radius);
        }

        static int headAt(State state, int hole) {
            int speed = speedAt(state, hole, state.holes);
            return speed * speed / HEAD_SCALE;
        }

        static int feltAt(State state, int hole, int trueHead) {
            int passed = trueHead * Rows.at(state.passes, hole) / HUNDRED;
            return passed - passed * Rows.at(state.leaks, hole) / HUNDRED;
        }

        static int whole(State state, int holes) {
            int sum = 0;
            for (int k = 0; k < holes; k++) {
                sum += flowOfRing(speedAt(state, k, holes), state.radius, holes);
            }
            return sum;
        }

        static int flowOfRing(int speed, int radius, int holes) {
            return Numbers.quotient(speed * (radius * radius / HUNDRED), holes);
        }
    }

    /** The readings that are kept, the oldest first: reading i has its heads from element 8 i on. */
    private static final class Readings {
        final int[] heads = new int[MOST_READINGS * MOST_HOLES];
        final int[] sizes = new int[MOST_READINGS];
        final int[] radii = new int[MOST_READINGS];
        int kept;

        void become(Readings other) {
            Rows.copy(other.heads, heads);
            Rows.copy(other.sizes, sizes);
            Rows.copy(other.radii, radii);
            kept = other.kept;
        }

        int headOf(int reading, int hole) {
            return Rows.at(heads, reading * MOST_HOLES + hole);
        }

        boolean isCounting(int reading, int holes, int radius) {
            return Rows.at(sizes, reading) == holes && Rows.at(radii, reading) == radius;
        }

        void add(int[] newHeads, int size, int radius) {
            if (kept >= MOST_READINGS) {
                remove(0);
            }
            for (int k = 0; k < size; k++) {
                Rows.put(heads, kept * MOST_HOLES + k, Rows.at(newHeads, k));
            }
            Rows.put(sizes, kept, size);
            Rows.put(radii, kept, radius);
            kept++;
        }

        void remove(int reading) {
            for (int i = reading; i + 1 < kept; i++) {
                for (int k = 0; k < MOST_HOLES; k++) {
                    Rows.put(heads, i * MOST_HOLES + k, headOf(i + 1, k));
                }
                Rows.put(sizes, i, Rows.at(sizes, i + 1));
                Rows.put(radii, i, Rows.at(radii, i + 1));
            }
            kept--;
        }
    }

    /** All that snapshots and saved states hold. */
    private static final class State {
        int holes = FIRST_HOLES;
        int radius = FIRST_RADIUS;
        final int[] settings = FIRST_VALUES.clone();
        final int[] passes = new int[MOST_HOLES];
        final int[] leaks = new int[MOST_HOLES];
        final int[] tests = new int[MOST_HOLES];
        final int[] works = new int[MOST_HOLES];
        final Readings readings = new Readings();
        int readingsSoFar;
        int workOfReadings;
        int workOfOldRakes;

        State() {
            for (int k = 0; k < passes.length; k++) {
                passes[k] = HUNDRED;
            }
        }

        void become(State other) {
            holes = other.holes;
            radius = other.radius;
            Rows.copy(other.settings, settings);
            Rows.copy(other.passes, passes);
            Rows.copy(other.leaks, leaks);
            Rows.copy(other.tests, tests);
            Rows.copy(other.works, works);
            readings.become(other.readings);
            readingsSoFar = other.readingsSoFar;
            workOfReadings = other.workOfReadings;
            workOfOldRakes = other.workOfOldRakes;
        }

        void putRake(int newHoles) {
            workOfOldRakes += workOfHoles();
            for (int k = 0; k < MOST_HOLES; k++) {
                clearHole(k);
                Rows.put(works, k, 0);
            }
            holes = newHoles;
        }

        void clearHole(int hole) {
            Rows.put(passes, hole, HUNDRED);
            Rows.put(leaks, hole, 0);
            Rows.put(tests, hole, NO_TEST);
        }

        int workOfCleaning(int hole) {
            int blocked = HUNDRED - Rows.at(passes, hole);
            int forLeak = Rows.at(leaks, hole) > 0 ? WORK_OF_LEAK : 0;
            return WORK_OF_CLEANING + blocked / 10 + forLeak;
        }

        void addHoleWork(int hole, int work) {
            Rows.put(works, hole, Rows.at(works, hole) + work);
        }

        int workOfHoles() {
            int sum = 0;
            for (int k = 0; k < holes; k++) {
                sum += Rows.at(works, k);
            }
            return sum;
        }

        void takeReading(int[] newHeads, int size) {
            readings.add(newHeads, size, radius);
            readingsSoFar++;
            workOfReadings += WORK_OF_READING;
        }
    }

    private static final class Slot {
        final State snapshot = new State();
        boolean filled;
    }

    /** The latest states, in a ring: the next one saved goes over the oldest when the ring is full. */
    private static final class SavedStates {
        final State[] ring = new State[MOST_SAVED];
        int next;
        int kept;

        SavedStates() {
            for (int i = 0; i < ring.length; i++) {
                ring[i] = new State();
            }
        }

        void push(State state) {
            State place = stateAt(next);
            if (place == null) {
                return;
            }
            place.become(state);
            next = next + 1 < MOST_SAVED ? next + 1 : 0;
            kept = Math.min(kept + 1, MOST_SAVED);
        }

        void popInto(State state) {
            int latest = next > 0 ? next - 1 : MOST_SAVED - 1;
            State place = stateAt(latest);
            if (kept == 0 || place == null) {
                return;
            }
            state.become(place);
            next = latest;
            kept--;
        }

        private State stateAt(int place) {
            return place >= 0 && place < ring.length ? ring[place] : null;
        }
    }

    private static final class TextBuffer {
        final int[] codes = new int[MOST_CODES];
        int length;

        void add(int code) {
            Rows.put(codes, length, code);
            length++;
        }

        int firstWrong() {
            int commas = 0;
            int digits = 0;
            boolean isZero = false;
            for (int i = 0; i < length; i++) {
                int code = Rows.at(codes, i);
                if (isDigit(code) && digits < MOST_DIGITS && !isZero) {
                    isZero = digits == 0 && code == '0';
                    digits++;
                } else if (code == ',' && digits > 0 && commas + 1 < MOST_HOLES) {
                    commas++;
                    digits = 0;
                    isZero = false;
                } else {
                    return i;
                }
            }
            return length;
        }

        boolean tellsReading() {
            return length > 0 && isDigit(Rows.at(codes, length - 1)) && firstWrong() == length;
        }

        /** Only for a buffer that tells a reading; returns how many heads there are. */
        int headsInto(int[] heads) {
            int size = 0;
            int head = 0;
            for (int i = 0; i < length; i++) {
                int code = Rows.at(codes, i);
                if (isDigit(code)) {
                    head = 10 * head + (code - '0');
                } else {
                    Rows.put(heads, size, head);
                    size++;
                    head = 0;
                }
            }
            Rows.put(heads, size, head);
            return size + 1;
        }

        private static boolean isDigit(int code) {
            return code >= '0' && code <= '9';
        }
    }

    /** What the readings of a state tell: means, whom to trust, speeds, flows. */
    private static final class Told {
        final int[] means = new int[MOST_HOLES];
        final int[] reasons = new int[MOST_HOLES];
        final int[] speeds = new int[MOST_HOLES];
        int holes;
        int radius;
        int counting;
        int trusted;

        void judge(State state) {
            takeMeans(state);
            giveReasons(state, NONE);
            tellSpeeds();
        }

        void judgeIfRight(State state, int hole, int trueHead) {
            takeMeans(state);
            Rows.put(means, hole, trueHead);
            giveReasons(state, hole);
            tellSpeeds();
        }

        private void takeMeans(State state) {
            holes = state.holes;
            radius = state.radius;
            counting = 0;
            Rows.clear(means);
            Readings readings = state.readings;
            for (int i = 0; i < readings.kept; i++) {
                if (readings.isCounting(i, holes, radius)) {
                    counting++;
                    for (int k = 0; k < holes; k++) {
                        Rows.put(means, k, Rows.at(means, k) + readings.headOf(i, k));
                    }
                }
            }
            for (int k = 0; k < holes; k++) {
                Rows.put(means, k, Numbers.quotient(Rows.at(means, k), counting));
            }
        }

        private void giveReasons(State state, int right) {
            int greatest = 0;
            for (int k = 0; k < holes; k++) {
                greatest = Math.max(greatest, Rows.at(means, k));
            }
            int least = Rows.at(state.settings, LEAST_SHARE) * greatest;
            trusted = 0;
            for (int k = 0; k < holes; k++) {
                boolean hasFailed = k != right && Rows.at(state.tests, k) == TEST_FAILED;
                int reason = reasonFor(Rows.at(means, k), least, hasFailed);
                Rows.put(reasons, k, reason);
                trusted += reason == TRUSTED ? 1 : 0;
            }
        }

        private int reasonFor(int mean, int least, boolean hasFailed) {
            if (counting == 0) {
                return NOTHING_COUNTS;
            }
            if (mean == 0) {
                return MEAN_IS_ZERO;
            }
            if (HUNDRED * mean < least) {
                return MEAN_IS_LOW;
            }
            return hasFailed ? FAILED_ITS_TEST : TRUSTED;
        }

        /**
         * On the way out a suspect hole takes the speed of the nearest trusted one further in;
         * on the way back that of the nearest one further out is joined to it.
         */
        private void tellSpeeds() {
            int inner = NONE;
            for (int k = 0; k < holes; k++) {
                if (Rows.at(reasons, k) == TRUSTED) {
                    inner = Numbers.wholeRoot(HEAD_SCALE * Rows.at(means, k));
                }
                Rows.put(speeds, k, inner);
            }
            int outer = NONE;
            for (int k = holes - 1; k >= 0; k--) {
                if (Rows.at(reasons, k) == TRUSTED) {
                    outer = Rows.at(speeds, k);
                } else {
                    Rows.put(speeds, k, mended(Rows.at(speeds, k), outer));
                }
            }
        }

        private static int mended(int inner, int outer) {
            if (inner == NONE) {
                return outer;
            }
            return outer == NONE ? inner : (inner + outer) / 2;
        }

        int flowOfRings(int from, int end) {
            if (trusted == 0) {
                return NONE;
            }
            int sum = 0;
            for (int k = from; k < end; k++) {
                sum += TrueFlow.flowOfRing(Rows.at(speeds, k), radius, holes);
            }
            return sum;
        }

        int countOfReason(int reason) {
            int sum = 0;
            for (int k = 0; k < holes; k++) {
                sum += Rows.at(reasons, k) == reason ? 1 : 0;
            }
            return sum;
        }

        double leastByGreatest() {
            if (trusted == 0) {
                return 0.0;
            }
            int least = Rows.at(speeds, 0);
            int greatest = least;
            for (int k = 1; k < holes; k++) {
                least = Math.min(least, Rows.at(speeds, k));
                greatest = Math.max(greatest, Rows.at(speeds, k));
            }
            return greatest > 0 ? (double) least / greatest : 0.0;
        }
    }
}
