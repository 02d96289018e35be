import java.util.NoSuchElementException;
import java.util.function.Supplier;

/**
 * Each exception of the document, by each of its causes: it is thrown, the first one that is
 * documented ahead of others, and it changes nothing.
 */
public final class RefusedCallsTest {
    private static final Class<IllegalArgumentException> ILLEGAL_ARGUMENT = IllegalArgumentException.class;
    private static final Class<IllegalStateException> ILLEGAL_STATE = IllegalStateException.class;
    private static final Class<NoSuchElementException> NO_SUCH = NoSuchElementException.class;
    private static final Class<UnsupportedOperationException> UNSUPPORTED =
            UnsupportedOperationException.class;
    private static final Class<IndexOutOfBoundsException> OUT_OF_BOUNDS = IndexOutOfBoundsException.class;
    private static final Class<ArithmeticException> ARITHMETIC = ArithmeticException.class;

    private static final int[] NO_KEYS = {-1, 40, Integer.MIN_VALUE, Integer.MAX_VALUE};
    private static final String ALL_PHASES = "icbtd";

    public static void main(String[] args) {
        addStep();
        start();
        goToBoth();
        switchOver();
        goBack();
        end();
        writeOfArguments();
        writeInState();
        delete();
        read();
        nextNumber();
        readPart();
        putDown();
        follow();
        keysOutOfRange();
        rangesOutOfRange();
        stamp();
        turned();
        turnedBack();
        goal();
        firstUnlike();
        figures();
        Check.end();
    }

    private static void addStep() {
        for (char phase : ALL_PHASES.toCharArray()) {
            for (char kind : new char[] {'q', 'P', 'o', 'r', 't', 'w', 'y', (char) 0, (char) 65535}) {
                refuses("addStep of the kind " + (int) kind, phase, ILLEGAL_ARGUMENT,
                        mover -> mover.addStep(kind, 1));
            }
            for (int n : new int[] {1000, -1000, Integer.MIN_VALUE, Integer.MAX_VALUE}) {
                refuses("addStep p " + n, phase, ILLEGAL_ARGUMENT, mover -> mover.addStep('p', n));
            }
            for (int n : new int[] {0, 10, -10, Integer.MIN_VALUE, Integer.MAX_VALUE}) {
                refuses("addStep m " + n, phase, ILLEGAL_ARGUMENT, mover -> mover.addStep('m', n));
            }
        }
        for (char phase : "cbtd".toCharArray()) {
            refuses("addStep too late", phase, ILLEGAL_STATE, mover -> mover.addStep('p', 1));
        }
        Supplier<StoreMover> full = () -> Movers.withSteps("m9 m9 p0 n0 x0 s0");
        Twins.refuses("a seventh step", full, ILLEGAL_STATE, mover -> mover.addStep('n', 0));
        Twins.refuses("a seventh step of no kind", full, ILLEGAL_ARGUMENT, mover -> mover.addStep('q', 0));
        Twins.refuses("a seventh step p 1000", full, ILLEGAL_ARGUMENT, mover -> mover.addStep('p', 1000));
        Twins.refuses("a seventh step m 0", full, ILLEGAL_ARGUMENT, mover -> mover.addStep('m', 0));
    }

    private static void start() {
        for (char phase : "cbtd".toCharArray()) {
            refuses("start", phase, ILLEGAL_STATE, StoreMover::start);
        }
    }

    private static void goToBoth() {
        for (char phase : "ibtd".toCharArray()) {
            refuses("goToBoth", phase, ILLEGAL_STATE, StoreMover::goToBoth);
        }
        Twins.refuses("goToBoth, no key read", RefusedCallsTest::started, UNSUPPORTED, StoreMover::goToBoth);
        Twins.refuses("goToBoth, a key left", () -> readAndDown(39), UNSUPPORTED, StoreMover::goToBoth);
        Twins.refuses("goToBoth, a part waits", () -> read(40), UNSUPPORTED, StoreMover::goToBoth);
        Twins.refuses("goToBoth, keys left and a part waits", () -> read(1), UNSUPPORTED,
                StoreMover::goToBoth);
    }

    private static void switchOver() {
        for (char phase : "ictd".toCharArray()) {
            refuses("switchOver", phase, ILLEGAL_STATE, StoreMover::switchOver);
        }
        Twins.refuses("switchOver, a key aside too early", () -> withOneAside('c'), ILLEGAL_STATE,
                StoreMover::switchOver);
        Twins.refuses("switchOver, a key aside", () -> withOneAside('b'), UNSUPPORTED,
                StoreMover::switchOver);
    }

    private static void goBack() {
        for (char phase : "icbd".toCharArray()) {
            refuses("goBack", phase, ILLEGAL_STATE, StoreMover::goBack);
        }
        int[][] none = {{80, 1}, {-80, 1}, {1, 1}, {0, 100}, {0, -100}};
        for (int[] entry : none) {
            String what = "goBack of " + entry[0] + ", " + entry[1];
            Twins.refuses(what, () -> written(0, entry), UNSUPPORTED, StoreMover::goBack);
            Twins.refuses(what + " at a later key", () -> written(39, entry), UNSUPPORTED,
                    StoreMover::goBack);
            Twins.refuses(what + " when done", () -> done(written(0, entry)), ILLEGAL_STATE,
                    StoreMover::goBack);
        }
        for (int[] entry : new int[][] {{100, 0}, {-100, 0}, {0, 100}, {0, -100}}) {
            Twins.refuses("goBack of " + entry[0] + ", " + entry[1] + " without steps", () -> {
                StoreMover mover = Movers.in('t');
                mover.write(0, 99, -99);
                mover.write(1, entry[0], entry[1]);
                return mover;
            }, UNSUPPORTED, StoreMover::goBack);
        }
    }

    private static void end() {
        for (char phase : "icbd".toCharArray()) {
            refuses("end", phase, ILLEGAL_STATE, StoreMover::end);
        }
    }

    private static void writeOfArguments() {
        for (char phase : ALL_PHASES.toCharArray()) {
            for (int key : NO_KEYS) {
                refuses("write of the key " + key, phase, ILLEGAL_ARGUMENT, mover -> mover.write(key, 1, 1));
            }
            int over = phase == 't' || phase == 'd' ? 1000 : 100;
            for (int n : new int[] {over, -over, Integer.MIN_VALUE, Integer.MAX_VALUE}) {
                refuses("write of one " + n, phase, ILLEGAL_ARGUMENT, mover -> mover.write(0, n, 1));
                refuses("write of the other " + n, phase, ILLEGAL_ARGUMENT, mover -> mover.write(0, 1, n));
            }
        }
    }

    private static void writeInState() {
        refuses("write when done", 'd', ILLEGAL_STATE, mover -> mover.write(0, 1, 1));
        refuses("write of a new key when done", 'd', ILLEGAL_STATE, mover -> mover.write(3, 1, 1));
        for (char phase : "cbt".toCharArray()) {
            Supplier<StoreMover> full = () -> withFullLog(phase);
            int over = phase == 't' ? 1000 : 100;
            String what = "with a full log in " + phase;
            Twins.refuses("write " + what, full, ILLEGAL_STATE, mover -> mover.write(0, 1, 1));
            Twins.refuses("write of a new key " + what, full, ILLEGAL_STATE, mover -> mover.write(3, 1, 1));
            Twins.refuses("write of no key " + what, full, ILLEGAL_ARGUMENT, mover -> mover.write(40, 1, 1));
            Twins.refuses("write of one too great " + what, full, ILLEGAL_ARGUMENT,
                    mover -> mover.write(0, over, 1));
            Twins.refuses("write of another too great " + what, full, ILLEGAL_ARGUMENT,
                    mover -> mover.write(0, 1, over));
            Twins.refuses("delete " + what, full, ILLEGAL_STATE, mover -> mover.delete(0));
            Twins.refuses("delete of no key " + what, full, ILLEGAL_ARGUMENT, mover -> mover.delete(-1));
        }
    }

    private static void delete() {
        for (char phase : ALL_PHASES.toCharArray()) {
            for (int key : NO_KEYS) {
                refuses("delete " + key, phase, ILLEGAL_ARGUMENT, mover -> mover.delete(key));
            }
        }
        refuses("delete when done", 'd', ILLEGAL_STATE, mover -> mover.delete(0));
        refuses("delete of what is not there when done", 'd', ILLEGAL_STATE, mover -> mover.delete(3));
    }

    private static void read() {
        for (char phase : ALL_PHASES.toCharArray()) {
            refuses("read of what is not there", phase, NO_SUCH, mover -> mover.read(3, false));
            refuses("read of another that is not there", phase, NO_SUCH, mover -> mover.read(3, true));
        }
        Twins.refuses("read of an entry without a row in both", () -> {
            StoreMover mover = read(40);
            mover.delete(0);
            mover.putDown(0);
            return mover;
        }, NO_SUCH, mover -> mover.read(0, false));
        Twins.refuses("read of a row without an entry", () -> {
            StoreMover mover = in('t');
            mover.delete(0);
            return mover;
        }, NO_SUCH, mover -> mover.read(0, false));
    }

    private static void nextNumber() {
        refuses("nextNumber", 'd', ILLEGAL_STATE, StoreMover::nextNumber);
    }

    private static void readPart() {
        int[] none = {0, -1, 41, Integer.MIN_VALUE, Integer.MAX_VALUE};
        for (int keys : none) {
            for (char phase : ALL_PHASES.toCharArray()) {
                refuses("readPart of " + keys, phase, ILLEGAL_ARGUMENT, mover -> mover.readPart(keys));
            }
            Twins.refuses("readPart of " + keys + ", no key left", () -> read(40), ILLEGAL_ARGUMENT,
                    mover -> mover.readPart(keys));
            Twins.refuses("readPart of " + keys + ", 8 wait", RefusedCallsTest::withEightParts,
                    ILLEGAL_ARGUMENT, mover -> mover.readPart(keys));
        }
        for (int keys : new int[] {1, 40}) {
            for (char phase : "ibtd".toCharArray()) {
                refuses("readPart of " + keys, phase, ILLEGAL_STATE, mover -> mover.readPart(keys));
            }
            Twins.refuses("readPart of " + keys + ", no key left", () -> read(40), ILLEGAL_STATE,
                    mover -> mover.readPart(keys));
            Twins.refuses("readPart of " + keys + ", no key left, none waits", () -> readAndDown(40),
                    ILLEGAL_STATE, mover -> mover.readPart(keys));
            Twins.refuses("readPart of " + keys + ", 8 wait", RefusedCallsTest::withEightParts,
                    ILLEGAL_STATE, mover -> mover.readPart(keys));
        }
    }

    private static void putDown() {
        for (int part : new int[] {0, 1, -1, 7, 8, 39, 40, Integer.MIN_VALUE, Integer.MAX_VALUE}) {
            for (char phase : ALL_PHASES.toCharArray()) {
                Twins.refuses("putDown " + part + " in " + phase + ", none waits", () -> noneWaits(phase),
                        OUT_OF_BOUNDS, mover -> mover.putDown(part));
            }
            if (part != 0) {
                Twins.refuses("putDown " + part + ", part 0 waits", () -> read(1), OUT_OF_BOUNDS,
                        mover -> mover.putDown(part));
            }
        }
        Twins.refuses("putDown of what was put down", () -> readAndDown(1), OUT_OF_BOUNDS,
                mover -> mover.putDown(0));
        Twins.refuses("putDown of a ninth part", RefusedCallsTest::withEightParts, OUT_OF_BOUNDS,
                mover -> mover.putDown(8));
    }

    private static void follow() {
        for (char phase : ALL_PHASES.toCharArray()) {
            for (int n : new int[] {0, -1, 121, Integer.MIN_VALUE, Integer.MAX_VALUE}) {
                refuses("follow " + n, phase, ILLEGAL_ARGUMENT, mover -> mover.follow(n));
            }
        }
        for (char phase : "ibtd".toCharArray()) {
            refuses("follow 1", phase, ILLEGAL_STATE, mover -> mover.follow(1));
            refuses("follow 120", phase, ILLEGAL_STATE, mover -> mover.follow(120));
        }
    }

    private static void keysOutOfRange() {
        for (char phase : ALL_PHASES.toCharArray()) {
            for (int key : NO_KEYS) {
                refuses("state of " + key, phase, ILLEGAL_ARGUMENT, mover -> mover.state(key));
                refuses("stamp of " + key, phase, ILLEGAL_ARGUMENT, mover -> mover.stamp(key));
                refuses("goal of " + key, phase, ILLEGAL_ARGUMENT, mover -> mover.goal(key));
                for (boolean isSecond : new boolean[] {false, true}) {
                    refuses("read of " + key, phase, ILLEGAL_ARGUMENT, mover -> mover.read(key, isSecond));
                    refuses("turned of " + key, phase, ILLEGAL_ARGUMENT,
                            mover -> mover.turned(key, isSecond));
                    refuses("turnedBack of " + key, phase, ILLEGAL_ARGUMENT,
                            mover -> mover.turnedBack(key, isSecond));
                }
            }
        }
    }

    private static void rangesOutOfRange() {
        int[][] none = {{-1, 0}, {-1, 39}, {0, 40}, {39, 40}, {40, 40}, {-1, -1}, {1, 0}, {39, 38}, {39, 0},
            {Integer.MIN_VALUE, 39}, {0, Integer.MAX_VALUE}, {Integer.MAX_VALUE, Integer.MIN_VALUE}};
        for (char phase : ALL_PHASES.toCharArray()) {
            for (int[] range : none) {
                String what = range[0] + " to " + range[1];
                refuses("sum of rows " + what, phase, ILLEGAL_ARGUMENT,
                        mover -> mover.sum(false, range[0], range[1]));
                refuses("sum of entries " + what, phase, ILLEGAL_ARGUMENT,
                        mover -> mover.sum(true, range[0], range[1]));
                refuses("firstUnlike " + what, phase, ILLEGAL_ARGUMENT,
                        mover -> mover.firstUnlike(range[0], range[1]));
            }
        }
        Twins.refuses("firstUnlike leaves compared", () -> {
            StoreMover mover = in('i');
            mover.firstUnlike(0, 39);
            return mover;
        }, ILLEGAL_ARGUMENT, mover -> mover.firstUnlike(1, 0));
    }

    private static void stamp() {
        for (char phase : ALL_PHASES.toCharArray()) {
            refuses("stamp of nothing", phase, NO_SUCH, mover -> mover.stamp(3));
        }
        Twins.refuses("stamp of a row that was not moved", RefusedCallsTest::started, NO_SUCH,
                mover -> mover.stamp(0));
    }

    private static void turned() {
        for (boolean isSecond : new boolean[] {false, true}) {
            for (char phase : ALL_PHASES.toCharArray()) {
                refuses("turned of nothing", phase, NO_SUCH, mover -> mover.turned(3, isSecond));
            }
            for (char phase : "icb".toCharArray()) {
                Twins.refuses("turned of a row that cannot be in " + phase, () -> withOneAside(phase),
                        UNSUPPORTED, mover -> mover.turned(39, isSecond));
            }
            Twins.refuses("turned of an entry alone", () -> written(3, new int[] {81, 1}), NO_SUCH,
                    mover -> mover.turned(3, isSecond));
        }
    }

    private static void turnedBack() {
        for (boolean isSecond : new boolean[] {false, true}) {
            for (char phase : ALL_PHASES.toCharArray()) {
                refuses("turnedBack of nothing", phase, NO_SUCH, mover -> mover.turnedBack(3, isSecond));
            }
            Twins.refuses("turnedBack of a row alone", RefusedCallsTest::started, NO_SUCH,
                    mover -> mover.turnedBack(0, isSecond));
            Twins.refuses("turnedBack of a key aside", () -> withOneAside('b'), NO_SUCH,
                    mover -> mover.turnedBack(39, isSecond));
            Twins.refuses("turnedBack with a rest", () -> written(0, new int[] {80, 1}), UNSUPPORTED,
                    mover -> mover.turnedBack(0, isSecond));
            Twins.refuses("turnedBack to 100", () -> written(0, new int[] {81, 100}), UNSUPPORTED,
                    mover -> mover.turnedBack(0, isSecond));
        }
    }

    private static void goal() {
        for (char phase : "itd".toCharArray()) {
            refuses("goal", phase, ILLEGAL_STATE, mover -> mover.goal(0));
            refuses("goal of nothing", phase, ILLEGAL_STATE, mover -> mover.goal(3));
        }
    }

    /** These change what compared() answers, and nothing else. */
    private static void firstUnlike() {
        Supplier<StoreMover> asked = () -> {
            StoreMover mover = in('b');
            Check.isThrown("firstUnlike of stores that are alike", NO_SUCH, () -> mover.firstUnlike(0, 39));
            return mover;
        };
        Twins.refuses("firstUnlike again", asked, NO_SUCH, mover -> mover.firstUnlike(0, 39));
        Twins.refuses("firstUnlike of one key", asked, NO_SUCH, mover -> mover.firstUnlike(39, 39));
        Twins.refuses("firstUnlike of nothing", asked, NO_SUCH, mover -> mover.firstUnlike(3, 3));
    }

    private static void figures() {
        for (char phase : ALL_PHASES.toCharArray()) {
            Twins.refuses("movedShare of nothing", () -> Movers.in(phase), ARITHMETIC, StoreMover::movedShare);
            Twins.refuses("meanStamp of nothing", () -> Movers.in(phase), ARITHMETIC, StoreMover::meanStamp);
        }
        Twins.refuses("movedShare of entries alone", () -> {
            StoreMover mover = Movers.in('t');
            mover.write(0, 0, 0);
            return mover;
        }, ARITHMETIC, StoreMover::movedShare);
        Twins.refuses("meanStamp of rows alone", RefusedCallsTest::started, ARITHMETIC,
                StoreMover::meanStamp);
        Twins.refuses("meanStamp of a key aside alone", () -> {
            StoreMover mover = withOneAside('b');
            for (int key = 0; key < 39; key++) {
                mover.delete(key);
            }
            return mover;
        }, ARITHMETIC, StoreMover::meanStamp);
    }

    private static void refuses(String what, char phase, Class<? extends RuntimeException> due,
            Movers.On call) {
        Twins.refuses(what + " in " + phase, () -> in(phase), due, call);
    }

    /** Rows for the keys 0, 1, 2 and 39, changes of them, and numbers given out. The key 3 is free. */
    private static StoreMover in(char phase) {
        StoreMover mover = rows();
        mover.nextNumber();
        if (phase == 'i') {
            return mover;
        }
        mover.start();
        mover.write(1, -12, 99);
        mover.delete(2);
        if (phase == 'c') {
            mover.readPart(2);
            return mover;
        }
        mover.putDown(mover.readPart(40));
        mover.goToBoth();
        mover.write(2, 5, 5);
        if (phase == 'b') {
            return mover;
        }
        mover.switchOver();
        mover.write(0, 162, 7);
        mover.delete(1);
        mover.nextNumber();
        return phase == 'd' ? done(mover) : mover;
    }

    private static StoreMover rows() {
        StoreMover mover = Movers.withSteps("m9 m9");
        mover.write(0, 1, 1);
        mover.write(1, 2, 2);
        mover.write(2, 3, 3);
        mover.write(39, 12, -99);
        return mover;
    }

    private static StoreMover started() {
        StoreMover mover = rows();
        mover.start();
        mover.write(1, 4, 4);
        return mover;
    }

    private static StoreMover read(int keys) {
        StoreMover mover = started();
        mover.readPart(keys);
        return mover;
    }

    private static StoreMover noneWaits(char phase) {
        return phase == 'c' ? started() : in(phase);
    }

    private static StoreMover readAndDown(int keys) {
        StoreMover mover = read(keys);
        mover.putDown(0);
        return mover;
    }

    private static StoreMover withEightParts() {
        StoreMover mover = started();
        for (int i = 0; i < 8; i++) {
            mover.readPart(1);
        }
        return mover;
    }

    /** The key 39 has a row that cannot be turned. */
    private static StoreMover withOneAside(char phase) {
        StoreMover mover = rows();
        mover.write(39, 13, 0);
        if (phase == 'i') {
            return mover;
        }
        mover.start();
        mover.putDown(mover.readPart(40));
        if (phase == 'b') {
            mover.goToBoth();
        }
        return mover;
    }

    /** In 't', with an entry that can be turned back and behind it the one that is told. */
    private static StoreMover written(int key, int[] entry) {
        StoreMover mover = in('t');
        mover.write(2, 243, 4);
        mover.write(key, entry[0], entry[1]);
        mover.delete(key == 39 ? 0 : 39);
        return mover;
    }

    private static StoreMover done(StoreMover mover) {
        mover.end();
        return mover;
    }

    private static StoreMover withFullLog(char phase) {
        StoreMover mover = rows();
        mover.start();
        if (phase == 'c') {
            mover.readPart(2);
        } else {
            mover.putDown(mover.readPart(40));
            mover.goToBoth();
        }
        if (phase == 't') {
            mover.switchOver();
        }
        for (int i = 0; i < 119; i++) {
            mover.write(0, 81, 1);
        }
        mover.delete(2);
        return mover;
    }
}
