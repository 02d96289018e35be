import java.util.NoSuchElementException;

/**
 * Moves the rows of a live store, the source, to another store of another kind, the target.
 *
 * <p>The small classes inside look at each index before they use it, though their callers have
 * looked at it already: no run of calls may ever reach an exception of the machine itself.
 */
public final class StoreMover {
    private static final int KEYS = 40;
    private static final int MOST_STEPS = 6;
    private static final int MOST_CHANGES = 120;
    private static final int MOST_WAITING = 8;

    private static final int ROW_LIMIT = 99;
    private static final int ENTRY_LIMIT = 999;
    private static final int STEP_LIMIT = 99999;
    private static final int PLUS_LIMIT = 999;
    private static final int TIMES_LIMIT = 9;

    private static final char IDLE = 'i';
    private static final char COPYING = 'c';
    private static final char BOTH = 'b';
    private static final char SWITCHED = 't';
    private static final char DONE = 'd';

    private final Steps steps;
    private final Rows source;
    private final Target target;
    private final Log firstLog;
    private final Log secondLog;
    private final Parts copy;
    /** One couple serves every turning, so that no call makes an object. */
    private final Couple couple;
    private char phase;
    private int followed;
    private int nextEven;
    private int nextOdd;
    private int rangesCompared;

    public StoreMover() {
        steps = new Steps();
        source = new Rows();
        target = new Target();
        firstLog = new Log();
        secondLog = new Log();
        copy = new Parts();
        couple = new Couple();
        phase = IDLE;
        followed = 0;
        nextEven = 0;
        nextOdd = 1;
        rangesCompared = 0;
    }

    // ---- steps and phases

    public int addStep(char kind, int n) throws IllegalArgumentException, IllegalStateException {
        if (!Steps.isStep(kind, n)) {
            throw new IllegalArgumentException("no such step");
        }
        if (phase != IDLE || steps.isFull()) {
            throw new IllegalStateException("no step can be added any more");
        }
        steps.append(kind, n);
        return steps.size();
    }

    public int start() throws IllegalStateException {
        if (phase != IDLE) {
            throw new IllegalStateException("it was started before");
        }
        phase = COPYING;
        return source.count();
    }

    public char phase() {
        return phase;
    }

    public int goToBoth() throws IllegalStateException, UnsupportedOperationException {
        if (phase != COPYING) {
            throw new IllegalStateException("it is not copying");
        }
        if (copy.keysLeft() > 0 || copy.waiting() > 0) {
            throw new UnsupportedOperationException("the first copy is not complete");
        }
        int count = followUpTo(MOST_CHANGES);
        phase = BOTH;
        return count;
    }

    public int switchOver() throws IllegalStateException, UnsupportedOperationException {
        if (phase != BOTH) {
            throw new IllegalStateException("not both stores are written");
        }
        if (target.isAnyAside() || !areSumsSame(0, KEYS - 1)) {
            throw new UnsupportedOperationException("the stores are not alike");
        }
        phase = SWITCHED;
        return target.countEntries();
    }

    public int goBack() throws IllegalStateException, UnsupportedOperationException {
        if (phase != SWITCHED) {
            throw new IllegalStateException("it is not switched");
        }
        if (!canComeBack()) {
            throw new UnsupportedOperationException("an entry cannot be turned back");
        }
        int changes = secondLog.size();
        int changed = 0;
        for (int i = 0; i < changes; i++) {
            if (comeBack(secondLog.key(i))) {
                changed++;
            }
        }
        secondLog.clear();
        phase = BOTH;
        return changed;
    }

    public int end() throws IllegalStateException {
        if (phase != SWITCHED) {
            throw new IllegalStateException("it is not switched");
        }
        phase = DONE;
        return secondLog.size();
    }

    // ---- writing and reading

    public boolean write(int key, int one, int other)
            throws IllegalArgumentException, IllegalStateException {
        // When done, nothing is written, yet it is the target's numbers that are out of range then.
        int limit = isTargetLive() ? ENTRY_LIMIT : ROW_LIMIT;
        if (!isKey(key) || !isWithin(one, limit) || !isWithin(other, limit)) {
            throw new IllegalArgumentException("no such key, or no such number");
        }
        if (phase == DONE || isLogFull()) {
            throw new IllegalStateException("nothing can be written any more");
        }
        boolean wasThere = isLive(key);
        if (phase == SWITCHED) {
            target.putEntry(key, one, other, firstLog.size());
            secondLog.appendRow(key, one, other);
        } else {
            source.put(key, one, other);
            if (phase != IDLE) {
                firstLog.appendRow(key, one, other);
            }
            if (phase == BOTH) {
                followNext();
            }
        }
        return wasThere;
    }

    public boolean delete(int key) throws IllegalArgumentException, IllegalStateException {
        checkKey(key);
        if (phase == DONE) {
            throw new IllegalStateException("nothing can be deleted any more");
        }
        if (!isLive(key)) {
            return false;
        }
        if (isLogFull()) {
            throw new IllegalStateException("the log is full");
        }
        if (phase == SWITCHED) {
            target.putTrace(key, firstLog.size());
            secondLog.appendDeletion(key);
        } else {
            source.remove(key);
            if (phase != IDLE) {
                firstLog.appendDeletion(key);
            }
            if (phase == BOTH) {
                followNext();
            }
        }
        return true;
    }

    public int read(int key, boolean isSecond)
            throws IllegalArgumentException, NoSuchElementException {
        checkKey(key);
        if (!isLive(key)) {
            throw new NoSuchElementException("nothing has this key");
        }
        return isTargetLive() ? target.number(key, isSecond) : source.number(key, isSecond);
    }

    public int nextNumber() throws IllegalStateException {
        if (phase == DONE) {
            throw new IllegalStateException("no number is given out any more");
        }
        if (phase == SWITCHED) {
            nextOdd += 2;
            return nextOdd - 2;
        }
        nextEven += 2;
        return nextEven - 2;
    }

    // ---- copying

    public int readPart(int keys) throws IllegalArgumentException, IllegalStateException {
        if (keys < 1 || keys > KEYS) {
            throw new IllegalArgumentException("no such number of keys");
        }
        if (phase != COPYING || copy.keysLeft() == 0 || copy.waiting() >= MOST_WAITING) {
            throw new IllegalStateException("no part can be read");
        }
        return copy.take(source, keys, firstLog.size());
    }

    public int putDown(int part) throws IndexOutOfBoundsException {
        if (!copy.isWaiting(part)) {
            throw new IndexOutOfBoundsException("no such part waits");
        }
        int stamp = copy.stampOf(part);
        int end = copy.endOf(part);
        int gone = 0;
        for (int key = copy.lowOf(part); key < end; key++) {
            if (copy.hasRow(key)
                    && putRowDown(key, copy.number(key, false), copy.number(key, true), stamp)) {
                gone++;
            }
        }
        copy.finish(part);
        return gone;
    }

    public int follow(int changes) throws IllegalArgumentException, IllegalStateException {
        if (changes < 1 || changes > MOST_CHANGES) {
            throw new IllegalArgumentException("no such number of changes");
        }
        if (phase != COPYING) {
            throw new IllegalStateException("it is not copying");
        }
        return followUpTo(changes);
    }

    public int left() {
        return copy.keysLeft();
    }

    public int behind() {
        return firstLog.size() - followed;
    }

    public int parts() {
        return copy.waiting();
    }

    // ---- states and checks

    public char state(int key) throws IllegalArgumentException {
        checkKey(key);
        return stateOf(key);
    }

    public int stamp(int key) throws IllegalArgumentException, NoSuchElementException {
        checkKey(key);
        if (!target.isStamped(key)) {
            throw new NoSuchElementException("the key has no stamp");
        }
        return target.stampOf(key);
    }

    public int turned(int key, boolean isSecond)
            throws IllegalArgumentException, NoSuchElementException, UnsupportedOperationException {
        checkKey(key);
        if (!source.has(key)) {
            throw new NoSuchElementException("the source has no such row");
        }
        if (!turnRow(key)) {
            throw new UnsupportedOperationException("the row cannot be turned");
        }
        return couple.number(isSecond);
    }

    public int turnedBack(int key, boolean isSecond)
            throws IllegalArgumentException, NoSuchElementException, UnsupportedOperationException {
        checkKey(key);
        if (!target.hasEntry(key)) {
            throw new NoSuchElementException("the target has no such entry");
        }
        if (!turnEntryBack(key)) {
            throw new UnsupportedOperationException("the entry cannot be turned back");
        }
        return couple.number(isSecond);
    }

    public long sum(boolean isTarget, int low, int high) throws IllegalArgumentException {
        checkRange(low, high);
        return sumOfRange(isTarget, low, high);
    }

    public int firstUnlike(int low, int high)
            throws IllegalArgumentException, NoSuchElementException {
        checkRange(low, high);
        rangesCompared = 1;
        if (areSumsSame(low, high)) {
            throw new NoSuchElementException("no key of the range differs");
        }
        int from = low;
        int to = high;
        for (int halvings = 0; halvings < KEYS && from < to; halvings++) {
            int middle = from + (to - from) / 2;
            rangesCompared++;
            if (areSumsSame(from, middle)) {
                // As sums add, those of the second half differ; they count as compared all the same.
                from = middle + 1;
                rangesCompared++;
            } else {
                to = middle;
            }
        }
        return from;
    }

    public int compared() {
        return rangesCompared;
    }

    public char goal(int key) throws IllegalArgumentException, IllegalStateException {
        checkKey(key);
        if (phase != COPYING && phase != BOTH) {
            throw new IllegalStateException("the source is not being moved");
        }
        if (!source.has(key)) {
            return 'n';
        }
        return turnRow(key) ? 'e' : 'a';
    }

    // ---- figures

    public float movedShare() throws ArithmeticException {
        int rows = source.count();
        if (rows == 0) {
            throw new ArithmeticException("the source is empty");
        }
        return (float) countMoved() / (float) rows;
    }

    public boolean isAllMoved() {
        int rows = source.count();
        return rows > 0 && countMoved() == rows;
    }

    public double meanStamp() throws ArithmeticException {
        int entries = target.countEntries();
        if (entries == 0) {
            throw new ArithmeticException("the target has no entries");
        }
        return (double) target.addStamps() / (double) entries;
    }

    // ---- what several calls share

    private static boolean isKey(int key) {
        return key >= 0 && key < KEYS;
    }

    private static boolean isWithin(int number, int limit) {
        return number >= -limit && number <= limit;
    }

    private static void checkKey(int key) {
        if (!isKey(key)) {
            throw new IllegalArgumentException("no such key");
        }
    }

    private static void checkRange(int low, int high) {
        if (!isKey(low) || !isKey(high) || low > high) {
            throw new IllegalArgumentException("no such range of keys");
        }
    }

    private boolean isTargetLive() {
        return phase == SWITCHED || phase == DONE;
    }

    private boolean isLive(int key) {
        return isTargetLive() ? target.hasEntry(key) : source.has(key);
    }

    private boolean isLogFull() {
        if (phase == IDLE) {
            return false;
        }
        return phase == SWITCHED ? secondLog.isFull() : firstLog.isFull();
    }

    private int followUpTo(int most) {
        int count = Math.min(most, firstLog.size() - followed);
        for (int i = 0; i < count; i++) {
            followNext();
        }
        return count;
    }

    private void followNext() {
        int index = followed;
        followed++;
        int key = firstLog.key(index);
        int stamp = index + 1;
        if (!firstLog.isDeletion(index)) {
            putRowDown(key, firstLog.number(index, false), firstLog.number(index, true), stamp);
        } else if (target.givesWay(key, stamp)) {
            target.putTrace(key, stamp);
        }
    }

    private boolean putRowDown(int key, int one, int other, int stamp) {
        if (!target.givesWay(key, stamp)) {
            return false;
        }
        couple.set(one, other);
        if (steps.turn(couple)) {
            target.putEntry(key, couple.number(false), couple.number(true), stamp);
        } else {
            target.putAside(key, stamp);
        }
        return true;
    }

    /** Leaves in the couple what the row comes out as. */
    private boolean turnRow(int key) {
        if (!source.has(key)) {
            return false;
        }
        couple.set(source.number(key, false), source.number(key, true));
        return steps.turn(couple);
    }

    /** Leaves in the couple what the entry is turned back. */
    private boolean turnEntryBack(int key) {
        if (!target.hasEntry(key)) {
            return false;
        }
        couple.set(target.number(key, false), target.number(key, true));
        return steps.turnBack(couple);
    }

    private boolean canComeBack() {
        int changes = secondLog.size();
        for (int i = 0; i < changes; i++) {
            int key = secondLog.key(i);
            if (target.hasEntry(key) && !turnEntryBack(key)) {
                return false;
            }
        }
        return true;
    }

    /**
     * Answers whether the source changes by this. A key that the log names again finds the source
     * as it is to be, and so counts once.
     */
    private boolean comeBack(int key) {
        if (!target.hasEntry(key)) {
            boolean wasThere = source.has(key);
            source.remove(key);
            return wasThere;
        }
        if (!turnEntryBack(key)) {
            return false;
        }
        int one = couple.number(false);
        int other = couple.number(true);
        boolean isSame = source.holds(key, one, other);
        source.put(key, one, other);
        return !isSame;
    }

    private char stateOf(int key) {
        if (target.isAside(key)) {
            return 'a';
        }
        boolean isInTarget = target.hasEntry(key);
        if (!source.has(key)) {
            return isInTarget ? 't' : 'n';
        }
        if (!isInTarget) {
            return 's';
        }
        return turnRow(key) && isEntryAsCouple(key) ? 'e' : 'u';
    }

    private boolean isEntryAsCouple(int key) {
        return target.number(key, false) == couple.number(false)
                && target.number(key, true) == couple.number(true);
    }

    private int countMoved() {
        int count = 0;
        for (int key = 0; key < KEYS; key++) {
            if (stateOf(key) == 'e') {
                count++;
            }
        }
        return count;
    }

    private long sumOfRange(boolean isTarget, int low, int high) {
        long sum = 0L;
        for (int key = low; key <= high && key < KEYS; key++) {
            sum += isTarget ? sumOfEntry(key) : sumOfRow(key);
        }
        return sum;
    }

    private long sumOfEntry(int key) {
        if (!target.hasEntry(key)) {
            return 0L;
        }
        return sumOfKey(key, target.number(key, false), target.number(key, true));
    }

    private long sumOfRow(int key) {
        if (!turnRow(key)) {
            return 0L;
        }
        return sumOfKey(key, couple.number(false), couple.number(true));
    }

    private static long sumOfKey(int key, int p, int q) {
        return 1000L * key + 31L * p + q + 1L;
    }

    private boolean areSumsSame(int low, int high) {
        return sumOfRange(true, low, high) == sumOfRange(false, low, high);
    }

    /** Two numbers on their way through the steps. */
    private static final class Couple {
        private int one;
        private int other;

        void set(int newOne, int newOther) {
            one = newOne;
            other = newOther;
        }

        int number(boolean isSecond) {
            return isSecond ? other : one;
        }

        boolean areBothWithin(int limit) {
            return one >= -limit && one <= limit && other >= -limit && other <= limit;
        }

        void step(char kind, int n) {
            int oldOne = one;
            if (kind == 'p') {
                one += n;
            } else if (kind == 'm') {
                one *= n;
            } else if (kind == 'n') {
                one = -one;
            } else if (kind == 'x') {
                one = other;
                other = oldOne;
            } else {
                other += one;
            }
        }

        /** Answers whether this leaves no rest. */
        boolean stepBack(char kind, int n) {
            int oldOne = one;
            if (kind == 'm') {
                if (n == 0 || one % n != 0) {
                    return false;
                }
                one /= n;
            } else if (kind == 'p') {
                one -= n;
            } else if (kind == 'n') {
                one = -one;
            } else if (kind == 'x') {
                one = other;
                other = oldOne;
            } else {
                other -= one;
            }
            return true;
        }
    }

    /** The steps from a row to an entry, and back. */
    private static final class Steps {
        private final char[] kinds = new char[MOST_STEPS];
        private final int[] numbers = new int[MOST_STEPS];
        private int size;

        static boolean isStep(char kind, int n) {
            if (kind == 'p') {
                return isWithin(n, PLUS_LIMIT);
            }
            if (kind == 'm') {
                return isWithin(n, TIMES_LIMIT) && n != 0;
            }
            return kind == 'n' || kind == 'x' || kind == 's';
        }

        int size() {
            return size;
        }

        boolean isFull() {
            return size >= MOST_STEPS;
        }

        void append(char kind, int n) {
            if (size >= 0 && size < MOST_STEPS) {
                kinds[size] = kind;
                numbers[size] = n;
                size++;
            }
        }

        boolean turn(Couple couple) {
            for (int i = 0; i < size && i < MOST_STEPS; i++) {
                couple.step(kinds[i], numbers[i]);
                if (!couple.areBothWithin(STEP_LIMIT)) {
                    return false;
                }
            }
            return couple.areBothWithin(ENTRY_LIMIT);
        }

        boolean turnBack(Couple couple) {
            for (int i = MOST_STEPS - 1; i >= 0; i--) {
                if (i < size && !couple.stepBack(kinds[i], numbers[i])) {
                    return false;
                }
            }
            return couple.areBothWithin(ROW_LIMIT);
        }
    }

    /** Two numbers for each key that is there. */
    private static final class Rows {
        private final boolean[] there = new boolean[KEYS];
        private final int[] ones = new int[KEYS];
        private final int[] others = new int[KEYS];

        boolean has(int key) {
            return isKey(key) && there[key];
        }

        int number(int key, boolean isSecond) {
            if (!isKey(key)) {
                return 0;
            }
            return isSecond ? others[key] : ones[key];
        }

        boolean holds(int key, int one, int other) {
            return has(key) && number(key, false) == one && number(key, true) == other;
        }

        void put(int key, int one, int other) {
            if (isKey(key)) {
                there[key] = true;
                ones[key] = one;
                others[key] = other;
            }
        }

        void remove(int key) {
            if (isKey(key)) {
                there[key] = false;
            }
        }

        int count() {
            int count = 0;
            for (int key = 0; key < KEYS; key++) {
                if (there[key]) {
                    count++;
                }
            }
            return count;
        }
    }

    /** The target: a key has an entry, or is aside, or has a trace, or nothing, and so no stamp. */
    private static final class Target {
        private static final int NOTHING = 0;
        private static final int ENTRY = 1;
        private static final int ASIDE = 2;
        private static final int TRACE = 3;

        private final int[] kinds = new int[KEYS];
        private final int[] stamps = new int[KEYS];
        private final int[] ones = new int[KEYS];
        private final int[] others = new int[KEYS];

        boolean isStamped(int key) {
            return isKey(key) && kinds[key] != NOTHING;
        }

        int stampOf(int key) {
            return isKey(key) ? stamps[key] : 0;
        }

        boolean givesWay(int key, int stamp) {
            return !isStamped(key) || stampOf(key) < stamp;
        }

        boolean isAside(int key) {
            return isKey(key) && kinds[key] == ASIDE;
        }

        boolean isAnyAside() {
            return count(ASIDE) > 0;
        }

        boolean hasEntry(int key) {
            return isKey(key) && kinds[key] == ENTRY;
        }

        int number(int key, boolean isSecond) {
            if (!isKey(key)) {
                return 0;
            }
            return isSecond ? others[key] : ones[key];
        }

        int countEntries() {
            return count(ENTRY);
        }

        private int count(int kind) {
            int count = 0;
            for (int key = 0; key < KEYS; key++) {
                if (kinds[key] == kind) {
                    count++;
                }
            }
            return count;
        }

        int addStamps() {
            int sum = 0;
            for (int key = 0; key < KEYS; key++) {
                if (kinds[key] == ENTRY) {
                    sum += stamps[key];
                }
            }
            return sum;
        }

        void putEntry(int key, int one, int other, int stamp) {
            if (isKey(key)) {
                kinds[key] = ENTRY;
                ones[key] = one;
                others[key] = other;
                stamps[key] = stamp;
            }
        }

        void putAside(int key, int stamp) {
            put(key, ASIDE, stamp);
        }

        void putTrace(int key, int stamp) {
            put(key, TRACE, stamp);
        }

        private void put(int key, int kind, int stamp) {
            if (isKey(key)) {
                kinds[key] = kind;
                stamps[key] = stamp;
            }
        }
    }

    /** Changes in their order; the change at an index has the number of the index plus 1. */
    private static final class Log {
        private final int[] keys = new int[MOST_CHANGES];
        private final boolean[] deletions = new boolean[MOST_CHANGES];
        private final int[] ones = new int[MOST_CHANGES];
        private final int[] others = new int[MOST_CHANGES];
        private int size;

        int size() {
            return size;
        }

        boolean isFull() {
            return size >= MOST_CHANGES;
        }

        void clear() {
            size = 0;
        }

        void appendRow(int key, int one, int other) {
            append(key, false, one, other);
        }

        void appendDeletion(int key) {
            append(key, true, 0, 0);
        }

        private void append(int key, boolean isDeletion, int one, int other) {
            if (size >= 0 && size < MOST_CHANGES) {
                keys[size] = key;
                deletions[size] = isDeletion;
                ones[size] = one;
                others[size] = other;
                size++;
            }
        }

        private static boolean isIndex(int index) {
            return index >= 0 && index < MOST_CHANGES;
        }

        int key(int index) {
            return isIndex(index) ? keys[index] : 0;
        }

        boolean isDeletion(int index) {
            return isIndex(index) && deletions[index];
        }

        int number(int index, boolean isSecond) {
            if (!isIndex(index)) {
                return 0;
            }
            return isSecond ? others[index] : ones[index];
        }
    }

    /**
     * The parts of the first copy. Each key is read once, so one set of rows holds those of all
     * parts, and there are no more parts than keys.
     */
    private static final class Parts {
        private final Rows rows = new Rows();
        private final int[] lows = new int[KEYS];
        private final int[] ends = new int[KEYS];
        private final int[] stamps = new int[KEYS];
        private final boolean[] waits = new boolean[KEYS];
        private int count;
        private int waiting;
        private int nextKey;

        int keysLeft() {
            return KEYS - nextKey;
        }

        int waiting() {
            return waiting;
        }

        int take(Rows source, int keys, int stamp) {
            int part = count;
            int end = nextKey + Math.min(keys, keysLeft());
            for (int key = nextKey; key < end && key < KEYS; key++) {
                if (source.has(key)) {
                    rows.put(key, source.number(key, false), source.number(key, true));
                }
            }
            if (isPart(part)) {
                lows[part] = nextKey;
                ends[part] = end;
                stamps[part] = stamp;
                waits[part] = true;
                waiting++;
                count++;
                nextKey = end;
            }
            return part;
        }

        private static boolean isPart(int part) {
            return part >= 0 && part < KEYS;
        }

        boolean isWaiting(int part) {
            return isPart(part) && waits[part];
        }

        int lowOf(int part) {
            return isPart(part) ? lows[part] : 0;
        }

        int endOf(int part) {
            return isPart(part) ? ends[part] : 0;
        }

        int stampOf(int part) {
            return isPart(part) ? stamps[part] : 0;
        }

        boolean hasRow(int key) {
            return rows.has(key);
        }

        int number(int key, boolean isSecond) {
            return rows.number(key, isSecond);
        }

        void finish(int part) {
            if (isWaiting(part)) {
                waits[part] = false;
                waiting--;
            }
        }
    }
}
