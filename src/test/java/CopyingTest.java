/** Promises 13 to 18. */
public final class CopyingTest {
    private static final Class<IllegalArgumentException> ILLEGAL_ARGUMENT = IllegalArgumentException.class;
    private static final Class<IllegalStateException> ILLEGAL_STATE = IllegalStateException.class;
    private static final Class<IndexOutOfBoundsException> OUT_OF_BOUNDS = IndexOutOfBoundsException.class;

    public static void main(String[] args) {
        partsAreNumbered();
        partsEndWithTheKeys();
        partsThatCannotBeRead();
        eightPartsWait();
        aPartHasItsRowsAsTheyWere();
        aPartHasItsOwnKeysAlone();
        aPartHasTheStampOfItsReading();
        aPartIsReadWithoutTouchingThoseThatWait();
        partsArePutDownInAnyOrderOnce();
        partsThatDoNotWait();
        rowsAsideAreCounted();
        anOlderRowGivesWay();
        anEqualStampStays();
        theStampOfItsOwnKeyDecides();
        aTraceIsAStampToo();
        follow();
        followInOrder();
        followAnOldChange();
        followOutOfRange();
        leftBehindAndParts();
        Check.end();
    }

    private static void partsAreNumbered() {
        StoreMover mover = Movers.in('c');
        Check.same("the first part", mover.readPart(1), 0);
        Check.same("the second part", mover.readPart(2), 1);
        mover.putDown(0);
        Check.same("the third part", mover.readPart(3), 2);
        Check.same("left", mover.left(), 34);
    }

    private static void partsEndWithTheKeys() {
        StoreMover mover = new StoreMover();
        mover.write(0, 1, 1);
        mover.write(36, 1, 1);
        mover.write(37, 1, 1);
        mover.write(39, 1, 1);
        mover.start();
        mover.readPart(37);
        Check.same("the rest", mover.readPart(40), 1);
        Check.same("left", mover.left(), 0);
        Check.same("two rows", mover.putDown(0), 2);
        Check.same("two rows", mover.putDown(1), 2);
        Check.isThrown("no key is left", ILLEGAL_STATE, () -> mover.readPart(1));
        StoreMover whole = Movers.in('c');
        Check.same("all keys", whole.readPart(40), 0);
        Check.same("left", whole.left(), 0);
    }

    private static void partsThatCannotBeRead() {
        for (char phase : new char[] {'i', 'c', 'b', 't', 'd'}) {
            StoreMover mover = Movers.in(phase);
            for (int keys : new int[] {0, -1, 41, Integer.MIN_VALUE, Integer.MAX_VALUE}) {
                Check.isThrown("readPart " + keys, ILLEGAL_ARGUMENT, () -> mover.readPart(keys));
            }
        }
        Movers.isThrownIn("ibtd", "readPart", ILLEGAL_STATE, mover -> mover.readPart(1));
    }

    private static void eightPartsWait() {
        StoreMover mover = Movers.in('c');
        for (int i = 0; i < 8; i++) {
            Check.same("a part", mover.readPart(1), i);
        }
        Check.same("parts", mover.parts(), 8);
        Check.isThrown("a ninth part", ILLEGAL_STATE, () -> mover.readPart(1));
        Check.isThrown("a ninth part of none", ILLEGAL_ARGUMENT, () -> mover.readPart(0));
        Check.same("left", mover.left(), 32);
        mover.putDown(5);
        Check.same("a ninth part", mover.readPart(1), 8);
        Check.isThrown("a tenth part", ILLEGAL_STATE, () -> mover.readPart(1));
        mover.putDown(8);
        for (int i = 9; i < 40; i++) {
            Check.same("a part", mover.readPart(1), i);
            Check.same("a part without rows", mover.putDown(i), 0);
        }
        Check.same("left", mover.left(), 0);
        Check.same("those that wait", mover.parts(), 7);
    }

    private static void aPartHasItsRowsAsTheyWere() {
        StoreMover mover = new StoreMover();
        mover.write(1, 1, 10);
        mover.write(2, 2, 20);
        mover.start();
        mover.readPart(10);
        mover.write(1, 5, 50);
        mover.delete(2);
        mover.write(3, 3, 30);
        Check.same("two rows", mover.putDown(0), 2);
        Check.same("the entry is as the row was", mover.turnedBack(1, false), 1);
        Check.same("the entry is as the row was", mover.turnedBack(1, true), 10);
        Check.same("state", mover.state(1), 'u');
        Check.same("the deleted one is there", mover.state(2), 't');
        Check.same("the new one is not", mover.state(3), 's');
    }

    private static void aPartHasItsOwnKeysAlone() {
        StoreMover mover = new StoreMover();
        mover.write(0, 1, 1);
        mover.write(1, 1, 1);
        mover.start();
        mover.readPart(1);
        mover.delete(1);
        mover.readPart(1);
        Check.same("the first key", mover.putDown(0), 1);
        Check.same("the second one was gone", mover.putDown(1), 0);
        Check.same("state", mover.state(1), 'n');
    }

    private static void aPartHasTheStampOfItsReading() {
        StoreMover mover = new StoreMover();
        mover.write(0, 1, 1);
        mover.write(1, 1, 1);
        mover.write(2, 1, 1);
        mover.start();
        mover.readPart(1);
        mover.write(30, 1, 1);
        mover.readPart(1);
        mover.write(31, 1, 1);
        mover.follow(2);
        mover.readPart(1);
        mover.write(32, 1, 1);
        for (int part = 0; part < 3; part++) {
            mover.putDown(part);
        }
        Check.same("stamp", mover.stamp(0), 0);
        Check.same("stamp", mover.stamp(1), 1);
        Check.same("stamp", mover.stamp(2), 2);
    }

    private static void aPartIsReadWithoutTouchingThoseThatWait() {
        StoreMover mover = withAllRows();
        mover.start();
        mover.readPart(5);
        for (int key = 0; key < 10; key++) {
            mover.write(key, key, 20);
        }
        mover.readPart(2);
        Check.same("the first part", mover.putDown(0), 5);
        mover.readPart(40);
        mover.write(9, 9, 30);
        Check.same("the third part", mover.putDown(2), 33);
        Check.same("the second part", mover.putDown(1), 2);
        for (int key = 0; key < 40; key++) {
            boolean isOld = key < 5 || key > 9;
            Check.same("row of " + key, mover.turnedBack(key, true), isOld ? 1 : 20);
            Check.same("stamp of " + key, mover.stamp(key), key < 5 ? 0 : 10);
        }
    }

    private static void partsArePutDownInAnyOrderOnce() {
        StoreMover mover = new StoreMover();
        for (int key = 0; key < 6; key++) {
            mover.write(key, key, key);
        }
        mover.start();
        mover.readPart(1);
        mover.readPart(2);
        mover.readPart(3);
        Check.same("the last one first", mover.putDown(2), 3);
        Check.same("the first one", mover.putDown(0), 1);
        Check.isThrown("again", OUT_OF_BOUNDS, () -> mover.putDown(2));
        Check.same("state", mover.state(1), 's');
        Check.same("the middle one", mover.putDown(1), 2);
        Check.same("state", mover.state(1), 'e');
        Check.isThrown("again", OUT_OF_BOUNDS, () -> mover.putDown(1));
        Check.same("parts", mover.parts(), 0);
    }

    private static void partsThatDoNotWait() {
        for (char phase : new char[] {'i', 'c', 'b', 't', 'd'}) {
            StoreMover mover = Movers.in(phase);
            for (int part : new int[] {0, 1, -1, 39, 40, Integer.MIN_VALUE, Integer.MAX_VALUE}) {
                Check.isThrown("putDown " + part, OUT_OF_BOUNDS, () -> mover.putDown(part));
            }
        }
        StoreMover mover = Movers.in('c');
        mover.readPart(1);
        Check.isThrown("a part ahead", OUT_OF_BOUNDS, () -> mover.putDown(1));
        Check.isThrown("a part before", OUT_OF_BOUNDS, () -> mover.putDown(-1));
        Check.same("a part without rows", mover.putDown(0), 0);
    }

    private static void rowsAsideAreCounted() {
        StoreMover mover = Movers.withSteps("p900");
        mover.write(0, 99, 1);
        mover.write(1, 98, 1);
        mover.write(2, -1, 1);
        mover.start();
        mover.readPart(40);
        Check.same("all of them", mover.putDown(0), 3);
        StoreMover other = Movers.withSteps("p901");
        other.write(0, 99, 1);
        other.write(1, 98, 1);
        other.start();
        other.readPart(40);
        Check.same("that aside, too", other.putDown(0), 2);
        Check.same("aside", other.state(0), 'a');
        Check.same("its stamp", other.stamp(0), 0);
        Check.same("moved", other.state(1), 'e');
    }

    private static void anOlderRowGivesWay() {
        StoreMover mover = new StoreMover();
        mover.write(1, 1, 1);
        mover.write(2, 2, 2);
        mover.start();
        mover.readPart(40);
        mover.write(1, 5, 5);
        mover.follow(1);
        Check.same("one row goes", mover.putDown(0), 1);
        Check.same("the newer one stays", mover.state(1), 'e');
        Check.same("its stamp", mover.stamp(1), 1);
        Check.same("the other", mover.stamp(2), 0);
        StoreMover later = new StoreMover();
        later.start();
        later.write(1, 5, 5);
        later.follow(1);
        later.write(9, 5, 5);
        later.readPart(40);
        Check.same("a greater stamp goes", later.putDown(0), 2);
        Check.same("its stamp", later.stamp(1), 2);
    }

    private static void anEqualStampStays() {
        StoreMover mover = Movers.in('c');
        mover.write(1, 5, 5);
        mover.readPart(40);
        mover.follow(1);
        Check.same("stamp", mover.stamp(1), 1);
        Check.same("an equal stamp stays", mover.putDown(0), 0);
        StoreMover other = Movers.in('c');
        other.write(1, 5, 5);
        other.write(1, 6, 6);
        other.readPart(40);
        other.putDown(0);
        Check.same("stamp", other.stamp(1), 2);
        Check.same("follow", other.follow(2), 2);
        Check.same("stamp", other.stamp(1), 2);
        Check.same("the older change left nothing", other.state(1), 'e');
    }

    /** The other keys have greater stamps in the first tool, and lesser ones in the second. */
    private static void theStampOfItsOwnKeyDecides() {
        for (boolean isDeletion : new boolean[] {false, true}) {
            StoreMover early = withAllRows();
            early.start();
            early.putDown(early.readPart(1));
            change(early, 0, isDeletion);
            change(early, 30, isDeletion);
            early.putDown(early.readPart(39));
            early.follow(1);
            Check.same("the change goes", early.state(0), isDeletion ? 'n' : 'e');
            Check.same("its stamp", early.stamp(0), 1);
            StoreMover late = withAllRows();
            late.start();
            late.putDown(late.readPart(5));
            change(late, 5, isDeletion);
            late.write(5, 60, 60);
            late.putDown(late.readPart(35));
            late.follow(1);
            Check.same("the change stays out", late.state(5), 'e');
            Check.same("its stamp", late.stamp(5), 2);
        }
    }

    private static void change(StoreMover mover, int key, boolean isDeletion) {
        if (isDeletion) {
            mover.delete(key);
        } else {
            mover.write(key, 50, 50);
        }
    }

    private static StoreMover withAllRows() {
        StoreMover mover = new StoreMover();
        for (int key = 0; key < 40; key++) {
            mover.write(key, key, 1);
        }
        return mover;
    }

    private static void aTraceIsAStampToo() {
        StoreMover mover = new StoreMover();
        mover.write(1, 1, 1);
        mover.start();
        mover.readPart(40);
        mover.delete(1);
        mover.follow(1);
        Check.same("stamp of the trace", mover.stamp(1), 1);
        Check.same("the row stays out", mover.putDown(0), 0);
        Check.same("state", mover.state(1), 'n');
        mover.write(1, 2, 2);
        mover.follow(1);
        Check.same("a later row comes", mover.state(1), 'e');
        Check.same("stamp", mover.stamp(1), 2);
        StoreMover aside = Movers.withSteps("p999");
        aside.write(1, 1, 1);
        aside.start();
        aside.putDown(aside.readPart(40));
        Check.same("aside", aside.state(1), 'a');
        aside.delete(1);
        Check.same("still aside", aside.state(1), 'a');
        aside.follow(1);
        Check.same("a trace ends that", aside.state(1), 'n');
    }

    private static void follow() {
        StoreMover mover = Movers.in('c');
        Check.same("nothing to follow", mover.follow(1), 0);
        mover.write(1, 1, 1);
        mover.write(2, 2, 2);
        mover.write(3, 3, 3);
        Check.same("two of three", mover.follow(2), 2);
        Check.same("behind", mover.behind(), 1);
        Check.same("state", mover.state(2), 'e');
        Check.same("state", mover.state(3), 's');
        Check.same("the rest", mover.follow(120), 1);
        Check.same("stamps", mover.stamp(1) * 100 + mover.stamp(2) * 10 + mover.stamp(3), 123);
        Check.same("behind", mover.behind(), 0);
    }

    private static void followInOrder() {
        StoreMover mover = Movers.in('c');
        mover.write(1, 1, 10);
        mover.write(1, 2, 20);
        mover.delete(1);
        mover.write(1, 3, 30);
        mover.follow(1);
        Check.same("the first", mover.turnedBack(1, false), 1);
        Check.same("the first", mover.turnedBack(1, true), 10);
        mover.follow(1);
        Check.same("the second", mover.turnedBack(1, false), 2);
        mover.follow(1);
        Check.same("gone", mover.state(1), 's');
        Check.same("its trace", mover.stamp(1), 3);
        mover.follow(1);
        Check.same("the last", mover.state(1), 'e');
    }

    private static void followAnOldChange() {
        StoreMover mover = new StoreMover();
        mover.write(1, 1, 1);
        mover.start();
        mover.delete(1);
        mover.write(1, 2, 2);
        mover.putDown(mover.readPart(40));
        Check.same("an old deletion is followed", mover.follow(1), 1);
        Check.same("it takes nothing away", mover.state(1), 'e');
        Check.same("stamp", mover.stamp(1), 2);
        StoreMover gone = new StoreMover();
        gone.start();
        gone.delete(1);
        gone.write(1, 1, 1);
        gone.delete(1);
        gone.follow(120);
        Check.same("stamp of a trace", gone.stamp(1), 2);
    }

    private static void followOutOfRange() {
        for (char phase : new char[] {'i', 'c', 'b', 't', 'd'}) {
            StoreMover mover = Movers.in(phase);
            for (int n : new int[] {0, -1, 121, Integer.MIN_VALUE, Integer.MAX_VALUE}) {
                Check.isThrown("follow " + n, ILLEGAL_ARGUMENT, () -> mover.follow(n));
            }
        }
        Movers.isThrownIn("ibtd", "follow", ILLEGAL_STATE, mover -> mover.follow(1));
    }

    private static void leftBehindAndParts() {
        StoreMover mover = Movers.in('c');
        mover.readPart(7);
        mover.readPart(1);
        mover.write(0, 1, 1);
        mover.delete(0);
        Check.same("left", mover.left(), 32);
        Check.same("parts", mover.parts(), 2);
        Check.same("behind", mover.behind(), 2);
        mover.putDown(0);
        Check.same("left", mover.left(), 32);
        Check.same("parts", mover.parts(), 1);
        mover.readPart(40);
        mover.putDown(1);
        mover.putDown(2);
        mover.goToBoth();
        mover.write(1, 1, 1);
        Check.same("left in both", mover.left(), 0);
        Check.same("parts in both", mover.parts(), 0);
        Check.same("behind in both", mover.behind(), 0);
        mover.switchOver();
        mover.write(2, 1, 1);
        Check.same("behind in the target", mover.behind(), 0);
        mover.end();
        Check.same("left when done", mover.left(), 0);
    }
}
