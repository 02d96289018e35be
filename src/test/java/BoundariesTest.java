import java.util.NoSuchElementException;

/**
 * The cases at the edges that the document names and that are not refused: the least, the greatest,
 * the empty and the full. Each method has the sentence that it tests ahead of it. What is refused
 * stands in RefusedCallsTest.
 */
public final class BoundariesTest {
    private static final Class<IllegalStateException> ILLEGAL_STATE = IllegalStateException.class;
    private static final Class<NoSuchElementException> NO_SUCH = NoSuchElementException.class;
    private static final Class<UnsupportedOperationException> UNSUPPORTED =
            UnsupportedOperationException.class;

    public static void main(String[] args) {
        callsOfOneObject();
        emptyStores();
        keys();
        fullStores();
        numbersOfRows();
        numbersOfEntries();
        sixSteps();
        numbersOfSteps();
        numbersWithoutMeaning();
        whatComesOut();
        whatIsTooGreatBetweenSteps();
        whatIsTurnedBack();
        divisionsWithARest();
        noLogAheadOfTheStart();
        changesFromOneOn();
        partsOfAllSizes();
        fortyParts();
        eightParts();
        stampsOfParts();
        asGreatOrGreater();
        takingAwayByTheSameRule();
        whatComesEndsTheOthers();
        followingNothingAndAll();
        goingToBothWithNothingAndAll();
        whateverStampsAreThere();
        stampsInTheTargetOfNoneAndOfAllChanges();
        aFullFirstLog();
        aFullSecondLog();
        theSecondLogIsEmptyThen();
        goingBackWithNothingAndAll();
        goingBackIsNoChange();
        deletingWhatIsNotThere();
        numbersNeverMeet();
        leastAndGreatestSums();
        rangesOfOneKey();
        halves();
        mostRangesCompared();
        leastAndGreatestShares();
        leastAndGreatestStamps();
        Check.end();
    }

    /** "An object is used for at most 512 calls". */
    private static void callsOfOneObject() {
        StoreMover mover = new StoreMover();
        for (int i = 0; i < 512; i++) {
            Check.same("nextNumber", mover.nextNumber(), 2 * i);
        }
        StoreMover writer = new StoreMover();
        for (int i = 0; i < 511; i++) {
            Check.same("write", writer.write(i % 40, i % 99, 0), i >= 40);
        }
        Check.same("start", writer.start(), 40);
    }

    /** "Creates a tool with empty stores, without steps, idle." */
    private static void emptyStores() {
        StoreMover mover = new StoreMover();
        Check.same("phase", mover.phase(), 'i');
        Check.same("the source", mover.sum(false, 0, 39), 0L);
        Check.same("the target", mover.sum(true, 0, 39), 0L);
        Check.same("the first step", mover.addStep('n', 0), 1);
        Check.same("start", mover.start(), 0);
        Check.same("a part of nothing", mover.putDown(mover.readPart(40)), 0);
        Check.same("goToBoth", mover.goToBoth(), 0);
        Check.same("switchOver", mover.switchOver(), 0);
        Check.same("goBack", mover.goBack(), 0);
        Check.same("switchOver again", mover.switchOver(), 0);
        Check.same("end", mover.end(), 0);
    }

    /** "keys 0 to 39". */
    private static void keys() {
        for (int key : new int[] {0, 39}) {
            StoreMover mover = Movers.withSteps("p1");
            Check.same("write", mover.write(key, 1, 2), false);
            Check.same("turned", mover.turned(key, false), 2);
            mover.start();
            Check.same("goal", mover.goal(key), 'e');
            mover.putDown(mover.readPart(40));
            Check.same("stamp", mover.stamp(key), 0);
            Check.same("turnedBack", mover.turnedBack(key, false), 1);
            mover.goToBoth();
            Check.same("read from the source", mover.read(key, false), 1);
            mover.switchOver();
            Check.same("read from the target", mover.read(key, false), 2);
            Check.same("write into the target", mover.write(key, 5, 5), true);
            Check.same("state", mover.state(key), 'u');
            Check.same("delete", mover.delete(key), true);
            Check.same("state", mover.state(key), 's');
            Check.same("goBack", mover.goBack(), 1);
            Check.same("state", mover.state(key), 'n');
        }
    }

    /** "The source has rows with the keys 0 to 39": with all of them. */
    private static void fullStores() {
        StoreMover mover = full();
        Check.same("start", mover.start(), 40);
        mover.readPart(40);
        Check.same("putDown", mover.putDown(0), 40);
        mover.goToBoth();
        Check.same("switchOver", mover.switchOver(), 40);
        Check.same("isAllMoved", mover.isAllMoved(), true);
    }

    /** "each with two numbers a and b from -99 to 99". */
    private static void numbersOfRows() {
        for (char phase : new char[] {'i', 'c', 'b'}) {
            StoreMover mover = Movers.in(phase);
            for (int one : new int[] {-99, 0, 99}) {
                for (int other : new int[] {-99, 0, 99}) {
                    mover.write(5, one, other);
                    Check.same("a", mover.read(5, false), one);
                    Check.same("b", mover.read(5, true), other);
                }
            }
        }
    }

    /** "or an entry into the target, with p and q, from -999 to 999". */
    private static void numbersOfEntries() {
        StoreMover mover = Movers.in('t');
        for (int one : new int[] {-999, -100, 0, 100, 999}) {
            for (int other : new int[] {-999, -100, 0, 100, 999}) {
                mover.write(5, one, other);
                Check.same("p", mover.read(5, false), one);
                Check.same("q", mover.read(5, true), other);
            }
        }
    }

    /** "At most 6 steps are told ahead of the start; they go over the couple (a, b) in their order". */
    private static void sixSteps() {
        StoreMover mover = new StoreMover();
        String kinds = "pmnxsp";
        int[] ones = {6, 18, -18, 2, 2, 3};
        int[] others = {2, 2, 2, -18, -16, -16};
        mover.write(0, 5, 2);
        for (int i = 0; i < 6; i++) {
            int n = i == 0 || i == 5 ? 1 : 3;
            Check.same("addStep", mover.addStep(kinds.charAt(i), n), i + 1);
            Check.same("p behind " + (i + 1) + " steps", mover.turned(0, false), ones[i]);
            Check.same("q behind " + (i + 1) + " steps", mover.turned(0, true), others[i]);
        }
        mover.start();
        mover.putDown(mover.readPart(40));
        Check.same("a back from 6 steps", mover.turnedBack(0, false), 5);
        Check.same("b back from 6 steps", mover.turnedBack(0, true), 2);
    }

    /** "-999 to 999 for 'p', -9 to 9 but not 0 for 'm'". */
    private static void numbersOfSteps() {
        for (int n : new int[] {-999, -1, 0, 1, 999}) {
            StoreMover mover = new StoreMover();
            Check.same("p " + n, mover.addStep('p', n), 1);
            mover.write(0, 0, 0);
            Check.same("p " + n, mover.turned(0, false), n);
        }
        for (int n : new int[] {-9, -1, 1, 9}) {
            StoreMover mover = new StoreMover();
            Check.same("m " + n, mover.addStep('m', n), 1);
            mover.write(0, 7, 0);
            Check.same("m " + n, mover.turned(0, false), 7 * n);
        }
    }

    /** "of no meaning for others". */
    private static void numbersWithoutMeaning() {
        for (int n : new int[] {Integer.MIN_VALUE, -1000, -10, 0, 10, 1000, Integer.MAX_VALUE}) {
            StoreMover mover = new StoreMover();
            Check.same("n " + n, mover.addStep('n', n), 1);
            Check.same("x " + n, mover.addStep('x', n), 2);
            Check.same("s " + n, mover.addStep('s', n), 3);
            mover.write(0, 7, 2);
            Check.same("p", mover.turned(0, false), 2);
            Check.same("q", mover.turned(0, true), -5);
        }
    }

    /** "A row can be turned if, behind the last step, both numbers are from -999 to 999". */
    private static void whatComesOut() {
        comesOut("p900", 99, 0, 999, 0);
        comesOut("p901", 98, 0, 999, 0);
        comesOutAsNothing("p901", 99, 0);
        comesOut("p-900", -99, 0, -999, 0);
        comesOutAsNothing("p-901", -99, 0);
        comesOut("p900 x0", 99, 0, 0, 999);
        comesOutAsNothing("p901 x0", 99, 0);
        comesOut("p-900 x0", -99, 0, 0, -999);
        comesOutAsNothing("p-901 x0", -99, 0);
    }

    /** "and, behind each step, from -99999 to 99999": beyond 999 is no harm between steps. */
    private static void whatIsTooGreatBetweenSteps() {
        comesOut("p999 p-999", 99, 0, 99, 0);
        comesOut("p-999 p999", -99, 0, -99, 0);
        comesOut("m9 p999 p-999 p-891", 99, 0, 0, 0);
        comesOut("x0 m9 m9 m9 m9 m9", 99, 0, 0, 99);
        comesOutAsNothing("m9 m9 m9 m9 m9 m9", 1, 0);
        comesOutAsNothing("m9 m9 m9 m9 m9 m9", -99, 0);
        comesOut("m9 m9 m9 m9 m9 m9", 0, 99, 0, 99);
    }

    private static void comesOut(String steps, int a, int b, int p, int q) {
        StoreMover mover = Movers.withSteps(steps);
        mover.write(0, a, b);
        Check.same(steps + " to p", mover.turned(0, false), p);
        Check.same(steps + " to q", mover.turned(0, true), q);
        Movers.toBoth(mover);
        Check.same(steps + " is moved", mover.state(0), 'e');
        Check.same(steps + " as the goal", mover.goal(0), 'e');
    }

    private static void comesOutAsNothing(String steps, int a, int b) {
        StoreMover mover = Movers.withSteps(steps);
        mover.write(0, a, b);
        Check.isThrown(steps + " to p", UNSUPPORTED, () -> mover.turned(0, false));
        Check.isThrown(steps + " to q", UNSUPPORTED, () -> mover.turned(0, true));
        Check.same(steps + " counts nothing", mover.sum(false, 0, 0), 0L);
        Movers.toBoth(mover);
        Check.same(steps + " is aside", mover.state(0), 'a');
        Check.same(steps + " as the goal", mover.goal(0), 'a');
    }

    /** "and a and b are from -99 to 99 then". */
    private static void whatIsTurnedBack() {
        for (int a : new int[] {-100, -99, 0, 99, 100}) {
            for (int b : new int[] {-100, -99, 0, 99, 100}) {
                boolean can = a >= -99 && a <= 99 && b >= -99 && b <= 99;
                isTurnedBack("x0 p3", b + 3, a, a, b, can);
            }
        }
    }

    /** "It can be turned back if each division by 'm' leaves no rest". */
    private static void divisionsWithARest() {
        for (int n = -9; n <= 9; n++) {
            for (int p = -20; p <= 20 && n != 0; p++) {
                isTurnedBack("m" + n, p, 5, p / n, 5, p % n == 0);
            }
        }
        isTurnedBack("m2 p1 m3", 21, 0, 3, 0, true);
        isTurnedBack("m2 p1 m3", 20, 0, 0, 0, false);
        isTurnedBack("m2 p1 m3", 24, 0, 0, 0, false);
    }

    private static void isTurnedBack(String steps, int p, int q, int a, int b, boolean can) {
        StoreMover mover = Movers.toTarget(Movers.withSteps(steps));
        mover.write(9, p, q);
        String what = steps + " back of " + p + ", " + q;
        String not = "throws." + UNSUPPORTED.getSimpleName();
        Object one = Check.answerOf(() -> mover.turnedBack(9, false));
        Object other = Check.answerOf(() -> mover.turnedBack(9, true));
        Check.same(what + " to a", one, can ? (Object) a : not);
        Check.same(what + " to b", other, can ? (Object) b : not);
        Check.same(what + " by goBack", Check.answerOf(mover::goBack), can ? (Object) 1 : not);
    }

    /** "'i' idle, at first: rows are told and changed without a log." */
    private static void noLogAheadOfTheStart() {
        StoreMover mover = new StoreMover();
        for (int i = 0; i < 200; i++) {
            mover.write(1, 1, 1);
            mover.delete(1);
        }
        Check.same("behind", mover.behind(), 0);
        mover.start();
        Check.same("behind", mover.behind(), 0);
        Check.same("nothing to follow", mover.follow(120), 0);
    }

    /** "each change of the source is written to the log, with numbers from 1 on". */
    private static void changesFromOneOn() {
        StoreMover mover = Movers.in('c');
        mover.write(0, 1, 1);
        mover.write(1, 1, 1);
        mover.delete(1);
        mover.follow(120);
        Check.same("the first change", mover.stamp(0), 1);
        Check.same("the third change", mover.stamp(1), 3);
        StoreMover both = Movers.in('b');
        both.write(0, 1, 1);
        Check.same("the first change", both.stamp(0), 1);
    }

    /** "the number of keys, 1 to 40, but no more than are left". */
    private static void partsOfAllSizes() {
        for (int keys = 1; keys <= 40; keys++) {
            StoreMover mover = full();
            mover.start();
            Check.same("readPart", mover.readPart(keys), 0);
            Check.same("left", mover.left(), 40 - keys);
            Check.same("rows", mover.putDown(0), keys);
            if (keys < 40) {
                Check.same("as many as are left, and more", mover.readPart(41 - keys), 1);
                Check.same("left", mover.left(), 0);
                Check.same("rows", mover.putDown(1), 40 - keys);
            }
        }
    }

    /** "Returns the number of the part, from 0, in the order in which they were read." */
    private static void fortyParts() {
        StoreMover mover = full();
        mover.start();
        for (int part = 0; part < 40; part++) {
            Check.same("readPart", mover.readPart(1), part);
            Check.same("left", mover.left(), 39 - part);
            Check.same("putDown", mover.putDown(part), 1);
            Check.same("state", mover.state(part), 'e');
        }
        Check.isThrown("no key is left", ILLEGAL_STATE, () -> mover.readPart(1));
        Check.same("goToBoth", mover.goToBoth(), 0);
    }

    /** "At most 8 parts wait." */
    private static void eightParts() {
        StoreMover mover = full();
        mover.start();
        for (int part = 0; part < 8; part++) {
            Check.same("parts", mover.parts(), part);
            Check.same("readPart", mover.readPart(1), part);
        }
        for (int part = 8; part < 20; part++) {
            Check.same("parts", mover.parts(), 8);
            Check.isThrown("a part too many", ILLEGAL_STATE, () -> mover.readPart(1));
            Check.same("putDown", mover.putDown(part - 8), 1);
            Check.same("parts", mover.parts(), 7);
            Check.same("readPart", mover.readPart(1), part);
        }
    }

    /** "each row of it has as its stamp the number of changes in the log then". */
    private static void stampsOfParts() {
        StoreMover mover = full();
        mover.start();
        mover.readPart(1);
        for (int i = 0; i < 120; i++) {
            mover.write(39, 1, 1);
        }
        mover.readPart(39);
        Check.same("ahead of all changes", mover.putDown(0), 1);
        Check.same("behind all changes", mover.putDown(1), 39);
        Check.same("no change", mover.stamp(0), 0);
        Check.same("120 changes", mover.stamp(38), 120);
        Check.same("120 changes", mover.stamp(39), 120);
        Check.same("behind", mover.behind(), 120);
    }

    /** "if its key has no stamp there that is as great or greater", over each kind of stamp. */
    private static void asGreatOrGreater() {
        for (char kind : new char[] {'e', 'a', 'x'}) {
            StoreMover less = Movers.withSteps("m9 m9");
            less.write(1, 2, 2);
            less.start();
            change(less, 1, kind);
            less.write(1, 3, 3);
            less.readPart(40);
            less.follow(1);
            Check.same("a stamp that is less by one", less.putDown(0), 1);
            Check.same("stamp", less.stamp(1), 2);
            Check.same("state", less.state(1), 'e');
            StoreMover greater = Movers.withSteps("m9 m9");
            greater.write(1, 2, 2);
            greater.start();
            greater.readPart(40);
            change(greater, 1, kind);
            greater.follow(1);
            Check.same("a stamp that is greater by one", greater.putDown(0), 0);
            Check.same("stamp", greater.stamp(1), 1);
            Check.same("state", greater.state(1), kind == 'x' ? 'n' : kind);
        }
        for (char kind : new char[] {'e', 'a'}) {
            StoreMover equal = Movers.withSteps("m9 m9");
            equal.start();
            change(equal, 1, kind);
            equal.readPart(40);
            equal.follow(1);
            Check.same("as great a stamp", equal.putDown(0), 0);
            Check.same("stamp", equal.stamp(1), 1);
            Check.same("state", equal.state(1), kind);
        }
    }

    /** "To take a key away with a stamp, by the same rule". */
    private static void takingAwayByTheSameRule() {
        for (char kind : new char[] {'e', 'a'}) {
            StoreMover mover = Movers.withSteps("m9 m9");
            mover.write(1, 2, 2);
            mover.start();
            mover.delete(1);
            change(mover, 1, kind);
            mover.putDown(mover.readPart(40));
            Check.same("follow", mover.follow(1), 1);
            Check.same("a stamp that is less takes nothing away", mover.state(1), kind);
            Check.same("stamp", mover.stamp(1), 2);
            mover.follow(1);
            mover.delete(1);
            Check.same("follow", mover.follow(1), 1);
            Check.same("a greater one does", mover.state(1), 'n');
            Check.same("stamp", mover.stamp(1), 3);
        }
        StoreMover nothing = new StoreMover();
        nothing.write(1, 2, 2);
        nothing.start();
        nothing.delete(1);
        nothing.follow(1);
        Check.same("nothing was there, and a trace is", nothing.stamp(1), 1);
    }

    /** Some changes of the key 30. */
    private static void fill(StoreMover mover, int changes) {
        for (int i = 0; i < changes; i++) {
            mover.write(30, 1, 1);
        }
    }

    /** Gives the key a row that can be turned, or one that cannot, or takes its row away. */
    private static void change(StoreMover mover, int key, char kind) {
        if (kind != 'x') {
            mover.write(key, kind == 'e' ? 12 : 13, 0);
        } else if (!mover.delete(key)) {
            mover.write(key, 1, 1);
            mover.delete(key);
        }
    }

    /** "A key has one of these at most: an entry, that it is aside, or a trace; what comes ends the others." */
    private static void whatComesEndsTheOthers() {
        for (char first : new char[] {'e', 'a', 'x'}) {
            for (char second : new char[] {'e', 'a', 'x'}) {
                StoreMover mover = Movers.toBoth(Movers.withSteps("m9 m9"));
                change(mover, 1, first);
                isOneAlone(mover, first);
                change(mover, 1, second);
                isOneAlone(mover, second);
            }
        }
    }

    private static void isOneAlone(StoreMover mover, char kind) {
        Check.same("state", mover.state(1), kind == 'x' ? 'n' : kind);
        Check.same("an entry", Check.answerOf(() -> mover.turnedBack(1, false)),
                kind == 'e' ? (Object) 12 : "throws.NoSuchElementException");
        Check.same("its sum", mover.sum(true, 0, 39), kind == 'e' ? 1000L + 31 * 972 + 1 : 0L);
        Check.same("the stamp of the last change", mover.stamp(1) > 0, true);
        Check.same("the mean", Check.answerOf(mover::meanStamp),
                kind == 'e' ? (Object) (double) mover.stamp(1) : "throws.ArithmeticException");
    }

    /** "the number of changes, 1 to 120": with none, one, as many, and fewer in the log. */
    private static void followingNothingAndAll() {
        for (int changes : new int[] {0, 1, 119, 120}) {
            for (int asked : new int[] {1, 119, 120}) {
                StoreMover mover = Movers.in('c');
                fill(mover, changes);
                Check.same("behind", mover.behind(), changes);
                int due = Math.min(asked, changes);
                Check.same("follow " + asked + " of " + changes, mover.follow(asked), due);
                Check.same("behind", mover.behind(), changes - due);
                Check.same("the rest", mover.follow(120), changes - due);
                Check.same("nothing more", mover.follow(1), 0);
            }
        }
    }

    /** "all changes that were not followed yet are followed first". */
    private static void goingToBothWithNothingAndAll() {
        for (int changes : new int[] {0, 1, 119, 120}) {
            StoreMover mover = Movers.in('c');
            mover.putDown(mover.readPart(40));
            fill(mover, changes);
            Check.same("goToBoth", mover.goToBoth(), changes);
            Check.same("behind", mover.behind(), 0);
            Check.same("state", mover.state(30), changes == 0 ? 'n' : 'e');
        }
        StoreMover followed = Movers.in('c');
        followed.putDown(followed.readPart(40));
        fill(followed, 120);
        followed.follow(120);
        Check.same("goToBoth with all followed", followed.goToBoth(), 0);
    }

    /** "whatever stamps are there, a write leaves an entry, and a deletion a trace". */
    private static void whateverStampsAreThere() {
        StoreMover mover = Movers.in('b');
        mover.write(1, 1, 1);
        mover.write(2, 1, 1);
        mover.delete(2);
        mover.write(3, 1, 1);
        mover.switchOver();
        Check.same("a write over as great a stamp", mover.write(3, 5, 6), true);
        Check.same("p", mover.read(3, false), 5);
        Check.same("stamp", mover.stamp(3), 4);
        Check.same("a deletion over as great a stamp", mover.delete(3), true);
        Check.isThrown("it is gone", NO_SUCH, () -> mover.read(3, false));
        Check.same("stamp", mover.stamp(3), 4);
        Check.same("a write over as great a trace", mover.write(3, 7, 8), false);
        Check.same("p", mover.read(3, false), 7);
        Check.same("a write over a trace", mover.write(2, 9, 9), false);
        Check.same("stamp", mover.stamp(2), 4);
        Check.same("a deletion over a lesser stamp", mover.delete(1), true);
        Check.same("stamp", mover.stamp(1), 4);
    }

    /** "with the number of changes of the first log as its stamp". */
    private static void stampsInTheTargetOfNoneAndOfAllChanges() {
        for (int changes : new int[] {0, 120}) {
            StoreMover mover = Movers.in('b');
            fill(mover, changes);
            mover.switchOver();
            mover.write(1, 1, 1);
            mover.write(2, 1, 1);
            mover.delete(2);
            Check.same("stamp of an entry", mover.stamp(1), changes);
            Check.same("stamp of a trace", mover.stamp(2), changes);
        }
    }

    /** "or the log that it would be written to has 120 changes": of the first log. */
    private static void aFullFirstLog() {
        for (char phase : new char[] {'c', 'b'}) {
            StoreMover mover = Movers.in(phase);
            fill(mover, 119);
            Check.same("the last change", mover.delete(30), true);
            Check.isThrown("write", ILLEGAL_STATE, () -> mover.write(30, 1, 1));
            Check.same("delete of what is not there", mover.delete(30), false);
            Check.same("behind", mover.behind(), phase == 'c' ? 120 : 0);
        }
        StoreMover mover = Movers.in('b');
        fill(mover, 120);
        mover.switchOver();
        fill(mover, 120);
        Check.same("goBack", mover.goBack(), 0);
        Check.isThrown("the first log stays full", ILLEGAL_STATE, () -> mover.write(30, 1, 1));
        Check.isThrown("the first log stays full", ILLEGAL_STATE, () -> mover.delete(30));
    }

    /** The same of the second log. */
    private static void aFullSecondLog() {
        StoreMover mover = Movers.in('t');
        fill(mover, 119);
        Check.same("the last change", mover.delete(30), true);
        Check.isThrown("write", ILLEGAL_STATE, () -> mover.write(30, 1, 1));
        Check.same("delete of what is not there", mover.delete(30), false);
        Check.same("end", mover.end(), 120);
    }

    /** "The second log is empty then." */
    private static void theSecondLogIsEmptyThen() {
        StoreMover mover = Movers.in('t');
        fill(mover, 120);
        Check.same("goBack", mover.goBack(), 1);
        mover.switchOver();
        fill(mover, 120);
        Check.isThrown("full again", ILLEGAL_STATE, () -> mover.write(30, 1, 1));
        Check.same("goBack", mover.goBack(), 0);
        mover.switchOver();
        Check.same("end", mover.end(), 0);
    }

    /** "Returns the number of keys that become other ones in the source, or are gone or new there." */
    private static void goingBackWithNothingAndAll() {
        Check.same("nothing", Movers.in('t').goBack(), 0);
        StoreMover mover = Movers.toTarget(full());
        for (int key = 0; key < 40; key++) {
            mover.write(key, -key - 1, 1);
        }
        Check.same("all become other ones", mover.goBack(), 40);
        mover.switchOver();
        for (int key = 0; key < 40; key++) {
            mover.delete(key);
        }
        Check.same("all are gone", mover.goBack(), 40);
        mover.switchOver();
        for (int key = 0; key < 40; key++) {
            mover.write(key, key, 1);
        }
        Check.same("all are new", mover.goBack(), 40);
        Check.same("all alike", mover.isAllMoved(), true);
    }

    /** "this is no change of the first log". */
    private static void goingBackIsNoChange() {
        StoreMover mover = Movers.in('b');
        fill(mover, 119);
        mover.switchOver();
        mover.write(1, 1, 1);
        Check.same("goBack", mover.goBack(), 1);
        Check.same("behind", mover.behind(), 0);
        Check.same("the change 120", mover.write(1, 2, 2), true);
        Check.same("stamp", mover.stamp(1), 120);
        Check.isThrown("the change 121", ILLEGAL_STATE, () -> mover.write(1, 3, 3));
    }

    /** "Returns whether it was there; if not, nothing is written to a log." */
    private static void deletingWhatIsNotThere() {
        for (char phase : new char[] {'i', 'c', 'b'}) {
            StoreMover mover = Movers.in(phase);
            Check.same("delete", mover.delete(1), false);
            Check.same("behind", mover.behind(), 0);
            Check.isThrown("no trace", NO_SUCH, () -> mover.stamp(1));
        }
        StoreMover mover = Movers.in('t');
        Check.same("delete", mover.delete(1), false);
        Check.isThrown("no trace", NO_SUCH, () -> mover.stamp(1));
        Check.same("end", mover.end(), 0);
    }

    /** "Gives out a number, which was never given out". */
    private static void numbersNeverMeet() {
        StoreMover mover = Movers.in('b');
        boolean[] given = new boolean[1000];
        for (int i = 0; i < 20; i++) {
            for (int k = 0; k < i % 4; k++) {
                int even = mover.nextNumber();
                Check.same("even and new", even % 2 == 0 && !given[even], true);
                given[even] = true;
            }
            mover.switchOver();
            for (int k = 0; k < i % 3; k++) {
                int odd = mover.nextNumber();
                Check.same("odd and new", odd % 2 == 1 && !given[odd], true);
                given[odd] = true;
            }
            mover.goBack();
        }
        Check.same("none is left out", mover.nextNumber(), 60);
        mover.switchOver();
        Check.same("none is left out", mover.nextNumber(), 39);
    }

    /** "1000 times the key, plus 31 times p, plus q, plus 1, all added". */
    private static void leastAndGreatestSums() {
        StoreMover mover = Movers.in('t');
        mover.write(0, 0, 0);
        Check.same("an entry of nothing", mover.sum(true, 0, 39), 1L);
        mover.write(0, -999, -999);
        Check.same("the least of a key", mover.sum(true, 0, 0), 1L - 32 * 999);
        mover.write(39, 999, 999);
        Check.same("the greatest of a key", mover.sum(true, 39, 39), 39001L + 32 * 999);
        long sum = 0;
        for (int key = 0; key < 40; key++) {
            mover.write(key, 999, 999);
            sum += 1000 * key + 32 * 999 + 1;
        }
        Check.same("the greatest of all", mover.sum(true, 0, 39), sum);
        Check.same("of the source", mover.sum(false, 0, 39), 0L);
        StoreMover rows = new StoreMover();
        rows.write(0, -99, -99);
        rows.write(39, 99, 99);
        Check.same("of the least row", rows.sum(false, 0, 0), 1L - 32 * 99);
        Check.same("of the greatest row", rows.sum(false, 39, 39), 39001L + 32 * 99);
    }

    /** "a range of one key differs" if its sums do. */
    private static void rangesOfOneKey() {
        for (int key = 0; key < 40; key++) {
            int one = key;
            StoreMover mover = full();
            Check.same("sum", mover.sum(false, key, key), 1000L * key + 31 * key + 2);
            Check.same("firstUnlike", mover.firstUnlike(key, key), key);
            Check.same("compared", mover.compared(), 1);
            Movers.toBoth(mover);
            Check.isThrown("alike", NO_SUCH, () -> mover.firstUnlike(one, one));
            Check.same("compared", mover.compared(), 1);
        }
    }

    /** "by its first half, which has one key more if it cannot be halved, and then [..] by its second half". */
    private static void halves() {
        int[][] comparedFor = {{1}, {2, 3}, {3, 4, 3}, {3, 4, 4, 5}, {4, 5, 4, 4, 5}};
        for (int length = 1; length <= 5; length++) {
            for (int at = 0; at < length; at++) {
                for (int low : new int[] {0, 7, 40 - length}) {
                    StoreMover mover = new StoreMover();
                    mover.write(low + at, 1, 1);
                    String what = "the key " + at + " of " + length;
                    Check.same(what, mover.firstUnlike(low, low + length - 1), low + at);
                    Check.same(what + " compared", mover.compared(), comparedFor[length - 1][at]);
                }
            }
        }
    }

    /** "0 at first", and the most that a search can compare: 40, 20, 10, 5, 2 and 1 keys, seconds all. */
    private static void mostRangesCompared() {
        StoreMover mover = new StoreMover();
        Check.same("at first", mover.compared(), 0);
        mover.write(39, 1, 1);
        Check.same("the last key", mover.firstUnlike(0, 39), 39);
        Check.same("its ranges", mover.compared(), 11);
        int most = 0;
        for (int key = 0; key < 40; key++) {
            StoreMover other = new StoreMover();
            other.write(key, 1, 1);
            Check.same("firstUnlike", other.firstUnlike(0, 39), key);
            most = Math.max(most, other.compared());
        }
        Check.same("the most ranges", most, 11);
    }

    /** "Returns whether this share is 1", and "false if the source is empty". */
    private static void leastAndGreatestShares() {
        for (int moved = 0; moved <= 40; moved++) {
            StoreMover mover = full();
            mover.start();
            if (moved > 0) {
                mover.putDown(mover.readPart(moved));
            }
            Check.same("movedShare", mover.movedShare(), (float) moved / 40.0f);
            Check.same("isAllMoved", mover.isAllMoved(), moved == 40);
        }
        StoreMover mover = Movers.in('t');
        mover.write(1, 1, 1);
        Check.same("isAllMoved without rows", mover.isAllMoved(), false);
    }

    /** "Returns the sum of the stamps divided by the number of entries". */
    private static void leastAndGreatestStamps() {
        StoreMover mover = Movers.toBoth(full());
        Check.same("no change", mover.meanStamp(), 0.0);
        fill(mover, 120);
        Check.same("the last change of one of 40", mover.meanStamp(), 3.0);
        mover.switchOver();
        for (int key = 0; key < 40; key++) {
            mover.write(key, 1, 1);
        }
        Check.same("all have the last one", mover.meanStamp(), 120.0);
        for (int key = 1; key < 40; key++) {
            mover.delete(key);
        }
        Check.same("one entry", mover.meanStamp(), 120.0);
        mover.delete(0);
        Check.isThrown("no entries", ArithmeticException.class, mover::meanStamp);
    }

    /** A row for each key, which comes out as it is. */
    private static StoreMover full() {
        StoreMover mover = new StoreMover();
        for (int key = 0; key < 40; key++) {
            mover.write(key, key, 1);
        }
        return mover;
    }
}
