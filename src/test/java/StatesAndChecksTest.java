import java.util.NoSuchElementException;

/** Promises 19 to 26. */
public final class StatesAndChecksTest {
    private static final Class<IllegalArgumentException> ILLEGAL_ARGUMENT = IllegalArgumentException.class;
    private static final Class<IllegalStateException> ILLEGAL_STATE = IllegalStateException.class;
    private static final Class<NoSuchElementException> NO_SUCH = NoSuchElementException.class;
    private static final Class<UnsupportedOperationException> UNSUPPORTED =
            UnsupportedOperationException.class;

    public static void main(String[] args) {
        keysOutOfRange();
        states();
        statesOfKeysAside();
        stateOfAnEntryWhoseRowCannotBeTurned();
        stamps();
        turned();
        turnedLimits();
        turnedBack();
        turnedBackLimits();
        sums();
        sumsOfWhatCannotBeTurned();
        rangesOutOfRange();
        firstUnlike();
        firstUnlikeGoesByHalves();
        firstUnlikeBelievesSums();
        goals();
        Check.end();
    }

    private static void keysOutOfRange() {
        for (char phase : new char[] {'i', 'c', 'b', 't', 'd'}) {
            StoreMover mover = Movers.in(phase);
            for (int key : new int[] {-1, 40, Integer.MIN_VALUE, Integer.MAX_VALUE}) {
                Check.isThrown("state " + key, ILLEGAL_ARGUMENT, () -> mover.state(key));
                Check.isThrown("stamp " + key, ILLEGAL_ARGUMENT, () -> mover.stamp(key));
                Check.isThrown("turned " + key, ILLEGAL_ARGUMENT, () -> mover.turned(key, false));
                Check.isThrown("turnedBack " + key, ILLEGAL_ARGUMENT, () -> mover.turnedBack(key, true));
                Check.isThrown("goal " + key, ILLEGAL_ARGUMENT, () -> mover.goal(key));
            }
        }
    }

    private static void states() {
        StoreMover mover = Movers.withSteps("m2");
        mover.write(0, 1, 1);
        mover.write(1, 1, 1);
        mover.write(2, 1, 1);
        mover.write(3, 1, 1);
        mover.start();
        mover.putDown(mover.readPart(40));
        mover.write(1, 2, 1);
        mover.write(2, 1, 2);
        mover.delete(3);
        mover.write(39, 1, 1);
        Check.same("both alike", mover.state(0), 'e');
        Check.same("one number differs", mover.state(1), 'u');
        Check.same("the other differs", mover.state(2), 'u');
        Check.same("the target alone", mover.state(3), 't');
        Check.same("the source alone", mover.state(39), 's');
        Check.same("neither", mover.state(4), 'n');
        mover.follow(120);
        Check.same("a trace is nothing", mover.state(3), 'n');
        Check.same("both alike", mover.state(1), 'e');
    }

    private static void statesOfKeysAside() {
        StoreMover mover = Movers.withSteps("m9 m9");
        mover.write(0, 13, 0);
        mover.start();
        mover.putDown(mover.readPart(40));
        Check.same("aside with a row", mover.state(0), 'a');
        mover.delete(0);
        Check.same("aside without a row", mover.state(0), 'a');
        mover.write(0, 12, 0);
        Check.same("aside with a row that can be turned", mover.state(0), 'a');
        mover.follow(1);
        Check.same("a trace ends it", mover.state(0), 's');
        mover.follow(1);
        Check.same("an entry", mover.state(0), 'e');
        mover.write(0, 99, 0);
        mover.follow(1);
        Check.same("aside again", mover.state(0), 'a');
        Check.isThrown("it has no entry", NO_SUCH, () -> mover.turnedBack(0, false));
        Check.same("nor a sum", mover.sum(true, 0, 39), 0L);
    }

    private static void stateOfAnEntryWhoseRowCannotBeTurned() {
        StoreMover mover = Movers.withSteps("m9 m9");
        mover.write(0, 12, 0);
        mover.start();
        mover.putDown(mover.readPart(40));
        mover.write(0, 13, 0);
        Check.same("state", mover.state(0), 'u');
    }

    private static void stamps() {
        StoreMover mover = Movers.withSteps("m9 m9");
        mover.write(0, 1, 1);
        mover.write(1, 13, 1);
        Movers.toBoth(mover);
        Check.same("of an entry", mover.stamp(0), 0);
        Check.same("of a key aside", mover.stamp(1), 0);
        Check.isThrown("of nothing", NO_SUCH, () -> mover.stamp(2));
        mover.write(2, 1, 1);
        mover.write(0, 13, 1);
        mover.delete(1);
        Check.same("of an entry", mover.stamp(2), 1);
        Check.same("of a key aside", mover.stamp(0), 2);
        Check.same("of a trace", mover.stamp(1), 3);
    }

    private static void turned() {
        StoreMover mover = Movers.withSteps("m3 s0 p5");
        mover.write(0, 1, 2);
        for (int i = 0; i < 2; i++) {
            Check.same("p", mover.turned(0, false), 8);
            Check.same("q", mover.turned(0, true), 5);
            Check.isThrown("no row", NO_SUCH, () -> mover.turned(1, false));
            if (i == 0) {
                Movers.toTarget(mover);
                mover.write(0, 500, 500);
                mover.write(1, 500, 500);
            }
        }
    }

    private static void turnedLimits() {
        canBeTurned("p900", 99, 0, true);
        canBeTurned("p901", 99, 0, false);
        canBeTurned("p-900", -99, 0, true);
        canBeTurned("p-901", -99, 0, false);
        canBeTurned("x0 p900", 0, 99, true);
        canBeTurned("x0 p901 x0", 0, 99, false);
        canBeTurned("x0 p-901 x0", 0, -99, false);
        canBeTurned("p999 x0", 0, 99, true);
        canBeTurned("p999 x0", 1, 0, false);
        canBeTurned("p999 s0", 0, 1, false);
        canBeTurned("p999 s0", 0, -99, true);
        canBeTurned("p999 p999 p-999", 0, 0, true);
        canBeTurned("m9 m9 m9 m9 m9 m9", 0, 99, true);
        canBeTurned("m9 m9 m9 m9 m9 m9", 99, 99, false);
        canBeTurned("m9 m9", 12, 0, true);
        canBeTurned("m9 m9", 13, 0, false);
    }

    private static void canBeTurned(String steps, int a, int b, boolean due) {
        StoreMover mover = Movers.withSteps(steps);
        mover.write(7, a, b);
        String what = steps + " of " + a + ", " + b;
        for (boolean isSecond : new boolean[] {false, true}) {
            Object got = Check.answerOf(() -> mover.turned(7, isSecond));
            Check.same(what + " can be turned", got instanceof Integer, due);
            if (!due) {
                Check.same(what, got, "throws." + UNSUPPORTED.getSimpleName());
            }
        }
        Movers.toBoth(mover);
        Check.same(what + " is moved", mover.state(7), due ? 'e' : 'a');
        Check.same(what + " has the goal", mover.goal(7), due ? 'e' : 'a');
    }

    private static void turnedBack() {
        StoreMover mover = Movers.withSteps("p5 m3 n0 x0 s0");
        mover.write(0, 4, 9);
        mover.start();
        Check.isThrown("no entry yet", NO_SUCH, () -> mover.turnedBack(0, false));
        mover.putDown(mover.readPart(40));
        mover.write(0, 1, 1);
        Check.same("a", mover.turnedBack(0, false), 4);
        Check.same("b", mover.turnedBack(0, true), 9);
        mover.goToBoth();
        mover.switchOver();
        mover.write(1, -10, -40);
        Check.same("a", mover.turnedBack(1, false), 5);
        Check.same("b", mover.turnedBack(1, true), -10);
        Check.isThrown("no entry", NO_SUCH, () -> mover.turnedBack(2, true));
        mover.delete(1);
        Check.isThrown("no entry", NO_SUCH, () -> mover.turnedBack(1, true));
    }

    private static void turnedBackLimits() {
        canBeTurnedBack("n0", 99, -99, true);
        canBeTurnedBack("n0", -99, 99, true);
        canBeTurnedBack("n0", 100, 0, false);
        canBeTurnedBack("n0", -100, 0, false);
        canBeTurnedBack("n0", 0, 100, false);
        canBeTurnedBack("n0", 0, -100, false);
        canBeTurnedBack("m3", 6, 0, true);
        canBeTurnedBack("m3", -6, 0, true);
        canBeTurnedBack("m3", 7, 0, false);
        canBeTurnedBack("m3", -7, 0, false);
        canBeTurnedBack("m-3", 297, 0, true);
        canBeTurnedBack("m-3", 300, 0, false);
        canBeTurnedBack("p900", 999, 0, true);
        canBeTurnedBack("p900", 800, 0, false);
        canBeTurnedBack("m2 p1", 7, 0, true);
        canBeTurnedBack("m2 p1", 8, 0, false);
        canBeTurnedBack("p1 m2", 8, 0, true);
        canBeTurnedBack("p1 m2", 7, 0, false);
        canBeTurnedBack("s0", 99, 198, true);
        canBeTurnedBack("s0", 99, 199, false);
        canBeTurnedBack("s0 m9", 891, 0, true);
        canBeTurnedBack("s0 m9", 892, 0, false);
        canBeTurnedBack("p-999 p-999 p999 p999", 99, 0, true);
    }

    private static void canBeTurnedBack(String steps, int p, int q, boolean due) {
        StoreMover mover = Movers.toTarget(Movers.withSteps(steps));
        mover.write(7, p, q);
        String what = steps + " back of " + p + ", " + q;
        for (boolean isSecond : new boolean[] {false, true}) {
            Object got = Check.answerOf(() -> mover.turnedBack(7, isSecond));
            Check.same(what + " can be turned back", got instanceof Integer, due);
            if (!due) {
                Check.same(what, got, "throws." + UNSUPPORTED.getSimpleName());
            }
        }
        Object back = Check.answerOf(mover::goBack);
        Check.same(what + " lets go back", back, due ? (Object) 1 : "throws.UnsupportedOperationException");
        if (due) {
            Check.same(what + " comes out again", mover.state(7), 'e');
        }
    }

    private static void sums() {
        StoreMover mover = Movers.withSteps("m2");
        mover.write(0, 3, 4);
        mover.write(39, -5, 6);
        mover.write(10, 1, 0);
        long ofZero = 31 * 6 + 4 + 1;
        long ofTen = 10000 + 31 * 2 + 1;
        long ofLast = 39000 - 31 * 10 + 6 + 1;
        Check.same("of the source", mover.sum(false, 0, 39), ofZero + ofTen + ofLast);
        Check.same("of a range", mover.sum(false, 1, 39), ofTen + ofLast);
        Check.same("of a range", mover.sum(false, 0, 38), ofZero + ofTen);
        Check.same("of one key", mover.sum(false, 10, 10), ofTen);
        Check.same("of a key without a row", mover.sum(false, 11, 11), 0L);
        Check.same("of the target", mover.sum(true, 0, 39), 0L);
        mover.start();
        mover.readPart(20);
        mover.putDown(0);
        Check.same("of the target", mover.sum(true, 0, 39), ofZero + ofTen);
        Check.same("of a range of the target", mover.sum(true, 10, 10), ofTen);
        mover.delete(0);
        Check.same("of the source", mover.sum(false, 0, 39), ofTen + ofLast);
        Check.same("of the target", mover.sum(true, 0, 0), ofZero);
        mover.follow(1);
        Check.same("a trace counts nothing", mover.sum(true, 0, 0), 0L);
    }

    private static void sumsOfWhatCannotBeTurned() {
        StoreMover mover = Movers.withSteps("m9 m9");
        mover.write(3, 13, 1);
        mover.write(4, 0, 0);
        Check.same("it counts nothing", mover.sum(false, 0, 39), 4001L);
        Movers.toBoth(mover);
        Check.same("nor aside", mover.sum(true, 0, 39), 4001L);
    }

    private static void rangesOutOfRange() {
        int[][] none = {{-1, 5}, {0, 40}, {40, 40}, {6, 5}, {39, 0}, {-1, -1},
            {Integer.MIN_VALUE, Integer.MAX_VALUE}, {0, Integer.MAX_VALUE}, {Integer.MIN_VALUE, 0}};
        for (char phase : new char[] {'i', 'c', 'b', 't', 'd'}) {
            StoreMover mover = Movers.in(phase);
            for (int[] range : none) {
                String what = range[0] + " to " + range[1];
                Check.isThrown("sum " + what, ILLEGAL_ARGUMENT, () -> mover.sum(false, range[0], range[1]));
                Check.isThrown("sum " + what, ILLEGAL_ARGUMENT, () -> mover.sum(true, range[0], range[1]));
                Check.isThrown("unlike " + what, ILLEGAL_ARGUMENT,
                        () -> mover.firstUnlike(range[0], range[1]));
            }
            Check.same("compared", mover.compared(), 0);
        }
    }

    private static void firstUnlike() {
        StoreMover mover = new StoreMover();
        Check.isThrown("of empty stores", NO_SUCH, () -> mover.firstUnlike(0, 39));
        Check.same("compared", mover.compared(), 1);
        mover.write(20, 1, 1);
        mover.write(30, 1, 1);
        Check.same("unlike", mover.firstUnlike(0, 39), 20);
        Check.same("unlike", mover.firstUnlike(21, 39), 30);
        Check.same("one key", mover.firstUnlike(30, 30), 30);
        Check.same("compared", mover.compared(), 1);
        Check.isThrown("out of range", ILLEGAL_ARGUMENT, () -> mover.firstUnlike(0, 40));
        Check.same("compared is as before", mover.compared(), 1);
        Check.same("unlike", mover.firstUnlike(29, 30), 30);
        Check.same("compared both halves", mover.compared(), 3);
        Check.isThrown("out of range", ILLEGAL_ARGUMENT, () -> mover.firstUnlike(1, 0));
        Check.same("compared is as before", mover.compared(), 3);
        Check.isThrown("none differs", NO_SUCH, () -> mover.firstUnlike(0, 19));
        Check.same("compared", mover.compared(), 1);
        Check.same("phase", mover.phase(), 'i');
    }

    private static void firstUnlikeGoesByHalves() {
        int[] comparedFor = {7, 8, 7, 7, 8};
        for (int key = 0; key < 5; key++) {
            StoreMover mover = new StoreMover();
            mover.write(key, 0, 0);
            Check.same("unlike", mover.firstUnlike(0, 39), key);
            Check.same("compared for " + key, mover.compared(), comparedFor[key]);
        }
        StoreMover three = new StoreMover();
        three.write(1, 0, 0);
        Check.same("the first half has one more", three.firstUnlike(0, 2), 1);
        Check.same("compared", three.compared(), 4);
        StoreMover last = new StoreMover();
        last.write(2, 0, 0);
        Check.same("the second half", last.firstUnlike(0, 2), 2);
        Check.same("compared", last.compared(), 3);
        for (int key = 0; key < 40; key++) {
            StoreMover mover = new StoreMover();
            mover.write(key, 0, 0);
            Check.same("unlike", mover.firstUnlike(0, 39), key);
            Check.same("compared for " + key, mover.compared(), halvings(key, 0, 39));
        }
    }

    /** Told as the document tells it: a range, then its first half, then its second half. */
    private static int halvings(int key, int low, int high) {
        if (key < low || key > high || low == high) {
            return 1;
        }
        int keys = high - low + 1;
        int end = low + (keys + 1) / 2 - 1;
        int first = halvings(key, low, end);
        return 1 + first + (key <= end ? 0 : halvings(key, end + 1, high));
    }

    private static void firstUnlikeBelievesSums() {
        StoreMover mover = new StoreMover();
        mover.write(0, 0, 0);
        mover.write(39, 0, 0);
        mover.write(5, 0, 0);
        Movers.toTarget(mover);
        mover.write(5, 1, -31);
        Check.same("it differs", mover.state(5), 'u');
        Check.isThrown("but not its sum", NO_SUCH, () -> mover.firstUnlike(5, 5));
        mover.write(0, 1, 0);
        mover.write(39, 0, -31);
        Check.isThrown("nor all sums", NO_SUCH, () -> mover.firstUnlike(0, 39));
        Check.same("compared", mover.compared(), 1);
        Check.same("but the half", mover.firstUnlike(0, 19), 0);
        Check.same("and the other", mover.firstUnlike(20, 39), 39);
        mover.write(20, 0, 0);
        Check.same("the first half by its sum", mover.firstUnlike(0, 39), 0);
        mover.write(5, 1, -62);
        Check.same("a half whose sums are the same is left out", mover.firstUnlike(0, 39), 20);
    }

    private static void goals() {
        StoreMover mover = Movers.withSteps("m9 m9");
        mover.write(0, 1, 1);
        mover.write(1, 13, 1);
        mover.write(2, 1, 1);
        Check.isThrown("idle", ILLEGAL_STATE, () -> mover.goal(0));
        mover.start();
        mover.delete(2);
        Check.same("a row", mover.goal(0), 'e');
        Check.same("a row that cannot be turned", mover.goal(1), 'a');
        Check.same("no row", mover.goal(2), 'n');
        Check.same("no row", mover.goal(39), 'n');
        mover.readPart(40);
        mover.delete(1);
        mover.write(0, 13, 1);
        Check.same("as the source is now", mover.goal(0), 'a');
        mover.putDown(0);
        Check.same("aside, but no row", mover.goal(1), 'n');
        mover.goToBoth();
        for (int key = 0; key < 40; key++) {
            Check.same("the goal is reached", mover.state(key), mover.goal(key));
        }
        Movers.isThrownIn("itd", "goal", ILLEGAL_STATE, other -> other.goal(0));
        Movers.isThrownIn("itd", "goal of none", ILLEGAL_ARGUMENT, other -> other.goal(40));
    }
}
