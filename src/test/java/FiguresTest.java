/** Promises 27 to 29. */
public final class FiguresTest {
    private static final Class<ArithmeticException> ARITHMETIC = ArithmeticException.class;

    public static void main(String[] args) {
        withoutRowsAndEntries();
        movedShare();
        theOnlyRowIsMoved();
        theTargetAloneIsNoShare();
        meanStamp();
        meanStampOfTheFirstAndTheLastKey();
        Check.end();
    }

    private static void withoutRowsAndEntries() {
        for (char phase : new char[] {'i', 'c', 'b', 't', 'd'}) {
            StoreMover mover = Movers.in(phase);
            Check.isThrown("movedShare", ARITHMETIC, mover::movedShare);
            Check.isThrown("meanStamp", ARITHMETIC, mover::meanStamp);
            Check.same("isAllMoved", mover.isAllMoved(), false);
        }
        StoreMover gone = new StoreMover();
        gone.write(1, 1, 1);
        Movers.toBoth(gone);
        gone.delete(1);
        Check.isThrown("movedShare", ARITHMETIC, gone::movedShare);
        Check.isThrown("meanStamp with a trace alone", ARITHMETIC, gone::meanStamp);
        Check.same("isAllMoved", gone.isAllMoved(), false);
    }

    private static void movedShare() {
        StoreMover mover = Movers.withSteps("m9 m9");
        mover.write(0, 1, 1);
        mover.write(20, 1, 1);
        mover.write(39, 13, 1);
        Check.same("nothing moved", mover.movedShare(), 0.0f);
        mover.start();
        mover.readPart(20);
        mover.putDown(0);
        Check.same("a third", mover.movedShare(), 1.0f / 3.0f);
        Check.same("isAllMoved", mover.isAllMoved(), false);
        mover.putDown(mover.readPart(20));
        Check.same("two thirds", mover.movedShare(), 2.0f / 3.0f);
        mover.write(39, 12, 1);
        mover.follow(1);
        Check.same("all", mover.movedShare(), 1.0f);
        Check.same("isAllMoved", mover.isAllMoved(), true);
        mover.write(0, 2, 2);
        Check.same("one differs", mover.movedShare(), 2.0f / 3.0f);
        Check.same("isAllMoved", mover.isAllMoved(), false);
    }

    private static void theOnlyRowIsMoved() {
        StoreMover mover = new StoreMover();
        mover.write(0, 1, 1);
        Check.same("none", mover.isAllMoved(), false);
        Movers.toBoth(mover);
        Check.same("the only one", mover.isAllMoved(), true);
        Check.same("the only one", mover.movedShare(), 1.0f);
    }

    private static void theTargetAloneIsNoShare() {
        StoreMover mover = new StoreMover();
        mover.write(0, 1, 1);
        mover.write(1, 1, 1);
        Movers.toTarget(mover);
        mover.write(2, 1, 1);
        Check.same("an entry more", mover.movedShare(), 1.0f);
        Check.same("isAllMoved", mover.isAllMoved(), true);
        mover.delete(0);
        Check.same("an entry less", mover.movedShare(), 0.5f);
        mover.end();
        Check.same("when done", mover.movedShare(), 0.5f);
        Check.same("isAllMoved", mover.isAllMoved(), false);
    }

    private static void meanStamp() {
        StoreMover mover = Movers.withSteps("m9 m9");
        mover.write(0, 1, 1);
        Movers.toBoth(mover);
        Check.same("one entry", mover.meanStamp(), 0.0);
        mover.write(1, 1, 1);
        mover.write(2, 1, 1);
        mover.write(3, 1, 1);
        Check.same("0, 1, 2, 3", mover.meanStamp(), 1.5);
        mover.delete(3);
        Check.same("no trace", mover.meanStamp(), 1.0);
        mover.write(2, 13, 1);
        Check.same("nothing aside", mover.meanStamp(), 0.5);
        mover.write(5, 1, 1);
        Check.same("0, 1, 6", mover.meanStamp(), 7.0 / 3.0);
    }

    private static void meanStampOfTheFirstAndTheLastKey() {
        StoreMover mover = Movers.in('b');
        mover.write(0, 1, 1);
        mover.write(1, 1, 1);
        mover.write(0, 1, 1);
        mover.write(39, 1, 1);
        mover.delete(1);
        Check.same("3 and 4", mover.meanStamp(), 3.5);
    }
}
