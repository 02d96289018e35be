import java.util.NoSuchElementException;

/** Promises 9 to 12. */
public final class WritingAndReadingTest {
    private static final Class<IllegalArgumentException> ILLEGAL_ARGUMENT = IllegalArgumentException.class;
    private static final Class<IllegalStateException> ILLEGAL_STATE = IllegalStateException.class;
    private static final Class<NoSuchElementException> NO_SUCH = NoSuchElementException.class;

    public static void main(String[] args) {
        writeIntoTheSource();
        writeWithoutALog();
        writeWhileCopying();
        writeIntoBoth();
        writeIntoTheTarget();
        writeOutOfRange();
        writeWhenDone();
        theFirstLogIsFull();
        theSecondLogIsFull();
        deleteFromTheSource();
        deleteFromTheTarget();
        deleteOutOfRange();
        read();
        nextNumber();
        Check.end();
    }

    private static void writeIntoTheSource() {
        for (char phase : new char[] {'i', 'c', 'b'}) {
            StoreMover mover = Movers.in(phase);
            Check.same("a new row", mover.write(0, -99, 99), false);
            Check.same("a row in place of one", mover.write(0, 98, -98), true);
            Check.same("another new row", mover.write(39, 1, 2), false);
            Check.same("a", mover.read(0, false), 98);
            Check.same("b", mover.read(0, true), -98);
            Check.same("a", mover.read(39, false), 1);
            mover.delete(0);
            Check.same("a row behind a deletion", mover.write(0, 1, 1), false);
        }
    }

    private static void writeWithoutALog() {
        StoreMover mover = new StoreMover();
        for (int i = 0; i < 121; i++) {
            mover.write(i % 40, 1, 1);
        }
        Check.same("behind", mover.behind(), 0);
        Check.same("start", mover.start(), 40);
        Check.same("behind", mover.behind(), 0);
        Check.same("the target stays empty", mover.state(0), 's');
    }

    private static void writeWhileCopying() {
        StoreMover mover = Movers.in('c');
        mover.write(1, 1, 1);
        mover.write(1, 1, 1);
        Check.same("behind", mover.behind(), 2);
        Check.same("state", mover.state(1), 's');
        Check.isThrown("stamp", NO_SUCH, () -> mover.stamp(1));
    }

    private static void writeIntoBoth() {
        StoreMover mover = Movers.withSteps("m9 m2");
        Movers.toBoth(mover);
        mover.write(1, 3, 4);
        Check.same("state", mover.state(1), 'e');
        Check.same("stamp", mover.stamp(1), 1);
        Check.same("behind", mover.behind(), 0);
        mover.write(1, 99, 4);
        Check.same("aside", mover.state(1), 'a');
        Check.same("stamp", mover.stamp(1), 2);
        Check.same("there was one", mover.write(1, 5, 5), true);
        Check.same("state", mover.state(1), 'e');
        Check.same("stamp", mover.stamp(1), 3);
    }

    private static void writeIntoTheTarget() {
        StoreMover mover = Movers.withSteps("m2");
        mover.write(1, 3, 4);
        Movers.toBoth(mover);
        mover.write(2, 1, 1);
        mover.switchOver();
        Check.same("an entry in place of one", mover.write(1, -999, 999), true);
        Check.same("a new entry", mover.write(3, 999, -999), false);
        Check.same("p", mover.read(1, false), -999);
        Check.same("q", mover.read(1, true), 999);
        Check.same("the stamp is the first log's size", mover.stamp(1), 1);
        Check.same("stamp of a new entry", mover.stamp(3), 1);
        Check.same("the source stays", mover.turned(1, false), 6);
        Check.same("the first log stays", mover.behind(), 0);
        Check.same("the second log", mover.end(), 2);
    }

    private static void writeOutOfRange() {
        int[] noKeys = {-1, 40, Integer.MIN_VALUE, Integer.MAX_VALUE};
        for (char phase : new char[] {'i', 'c', 'b', 't', 'd'}) {
            StoreMover mover = Movers.in(phase);
            boolean isTarget = phase == 't' || phase == 'd';
            int over = isTarget ? 1000 : 100;
            for (int key : noKeys) {
                Check.isThrown("write key " + key, ILLEGAL_ARGUMENT, () -> mover.write(key, 1, 1));
            }
            for (int n : new int[] {over, -over, Integer.MIN_VALUE, Integer.MAX_VALUE}) {
                Check.isThrown("write one " + n, ILLEGAL_ARGUMENT, () -> mover.write(1, n, 1));
                Check.isThrown("write other " + n, ILLEGAL_ARGUMENT, () -> mover.write(1, 1, n));
            }
            Check.same("nothing was written", mover.state(1), 'n');
            Check.same("behind", mover.behind(), 0);
        }
    }

    private static void writeWhenDone() {
        StoreMover mover = new StoreMover();
        mover.write(1, 1, 1);
        Movers.toDone(mover);
        Check.isThrown("write", ILLEGAL_STATE, () -> mover.write(1, 2, 2));
        Check.isThrown("write of a new one", ILLEGAL_STATE, () -> mover.write(2, 2, 2));
        Check.isThrown("write of a key that is none", ILLEGAL_ARGUMENT, () -> mover.write(40, 2, 2));
        Check.isThrown("delete", ILLEGAL_STATE, () -> mover.delete(1));
        Check.isThrown("delete of what is not there", ILLEGAL_STATE, () -> mover.delete(2));
        Check.isThrown("delete of a key that is none", ILLEGAL_ARGUMENT, () -> mover.delete(-1));
        Check.same("it is as before", mover.read(1, false), 1);
        Check.same("state", mover.state(2), 'n');
    }

    private static void theFirstLogIsFull() {
        StoreMover mover = Movers.in('c');
        for (int i = 0; i < 119; i++) {
            mover.write(1, 1, 1);
        }
        Check.same("the change 120", mover.write(2, 1, 1), false);
        refusesChanges(mover);
        Check.same("behind", mover.behind(), 120);
        Check.same("follow", mover.follow(120), 120);
        refusesChanges(mover);
        mover.putDown(mover.readPart(40));
        mover.goToBoth();
        refusesChanges(mover);
        Check.same("stamp", mover.stamp(2), 120);
        mover.switchOver();
        Check.same("the second log is another one", mover.write(2, 2, 2), true);
    }

    private static void theSecondLogIsFull() {
        StoreMover mover = new StoreMover();
        Movers.toTarget(mover);
        for (int i = 0; i < 119; i++) {
            mover.write(1, 1, 1);
        }
        Check.same("the change 120", mover.write(2, 1, 1), false);
        refusesChanges(mover);
        Check.same("goBack", mover.goBack(), 2);
        Check.same("the first log has room", mover.write(3, 1, 1), false);
        mover.switchOver();
        Check.same("the second log has room", mover.delete(1), true);
        Check.same("end", mover.end(), 1);
    }

    /** Wants a tool with the keys 1 and 2, without the key 3, and with a full log. */
    private static void refusesChanges(StoreMover mover) {
        Check.isThrown("write", ILLEGAL_STATE, () -> mover.write(2, 5, 5));
        Check.isThrown("write of a new one", ILLEGAL_STATE, () -> mover.write(3, 5, 5));
        Check.isThrown("write of none", ILLEGAL_ARGUMENT, () -> mover.write(40, 5, 5));
        Check.isThrown("delete", ILLEGAL_STATE, () -> mover.delete(2));
        Check.isThrown("delete of none", ILLEGAL_ARGUMENT, () -> mover.delete(40));
        Check.same("delete of what is not there", mover.delete(3), false);
        Check.same("it is as before", mover.read(2, false), 1);
    }

    private static void deleteFromTheSource() {
        for (char phase : new char[] {'i', 'c', 'b'}) {
            StoreMover mover = Movers.in(phase);
            mover.write(0, 1, 1);
            mover.write(39, 1, 1);
            int behind = mover.behind();
            Check.same("delete", mover.delete(0), true);
            Check.same("it is logged when copying", mover.behind() - behind, phase == 'c' ? 1 : 0);
            Check.isThrown("read", NO_SUCH, () -> mover.read(0, false));
            behind = mover.behind();
            Check.same("delete again", mover.delete(0), false);
            Check.same("it is not logged", mover.behind(), behind);
            Check.same("delete the other", mover.delete(39), true);
            if (phase == 'b') {
                Check.same("state", mover.state(0), 'n');
                Check.same("stamp of the trace", mover.stamp(0), 3);
                Check.same("stamp of the other", mover.stamp(39), 4);
            }
        }
    }

    private static void deleteFromTheTarget() {
        StoreMover mover = new StoreMover();
        mover.write(1, 1, 1);
        mover.write(2, 1, 1);
        Movers.toBoth(mover);
        mover.write(2, 2, 2);
        mover.write(3, 3, 3);
        mover.switchOver();
        Check.same("delete", mover.delete(1), true);
        Check.same("delete again", mover.delete(1), false);
        Check.same("delete of what was never there", mover.delete(9), false);
        Check.same("the trace has the first log's size", mover.stamp(1), 2);
        Check.same("the source has it", mover.state(1), 's');
        Check.isThrown("no trace of 9", NO_SUCH, () -> mover.stamp(9));
        Check.same("one change", mover.end(), 1);
    }

    private static void deleteOutOfRange() {
        for (char phase : new char[] {'i', 'c', 'b', 't', 'd'}) {
            StoreMover mover = Movers.in(phase);
            for (int key : new int[] {-1, 40, Integer.MIN_VALUE, Integer.MAX_VALUE}) {
                Check.isThrown("delete " + key, ILLEGAL_ARGUMENT, () -> mover.delete(key));
            }
        }
    }

    private static void read() {
        StoreMover mover = Movers.withSteps("m2 x0");
        mover.write(0, 3, 4);
        mover.write(39, 5, 6);
        Check.same("a", mover.read(0, false), 3);
        Check.same("b", mover.read(39, true), 6);
        Movers.toBoth(mover);
        Check.same("a in both", mover.read(0, false), 3);
        Check.same("b in both", mover.read(0, true), 4);
        mover.switchOver();
        Check.same("p", mover.read(0, false), 4);
        Check.same("q", mover.read(0, true), 6);
        mover.delete(39);
        Check.isThrown("read of what is gone", NO_SUCH, () -> mover.read(39, false));
        mover.end();
        Check.same("p when done", mover.read(0, false), 4);
        Check.isThrown("read of what is gone", NO_SUCH, () -> mover.read(39, false));
        for (char phase : new char[] {'i', 'c', 'b', 't', 'd'}) {
            StoreMover empty = Movers.in(phase);
            Check.isThrown("read -1", ILLEGAL_ARGUMENT, () -> empty.read(-1, false));
            Check.isThrown("read 40", ILLEGAL_ARGUMENT, () -> empty.read(40, true));
            Check.isThrown("read 0", NO_SUCH, () -> empty.read(0, true));
        }
    }

    private static void nextNumber() {
        StoreMover mover = new StoreMover();
        Check.same("idle", mover.nextNumber(), 0);
        Check.same("idle", mover.nextNumber(), 2);
        mover.start();
        Check.same("copying", mover.nextNumber(), 4);
        mover.putDown(mover.readPart(40));
        mover.goToBoth();
        Check.same("both", mover.nextNumber(), 6);
        mover.switchOver();
        Check.same("target", mover.nextNumber(), 1);
        Check.same("target", mover.nextNumber(), 3);
        mover.goBack();
        Check.same("both again", mover.nextNumber(), 8);
        mover.switchOver();
        Check.same("target again", mover.nextNumber(), 5);
        mover.end();
        Check.isThrown("done", ILLEGAL_STATE, mover::nextNumber);
    }
}
