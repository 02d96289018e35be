/** Promises 1 to 8. */
public final class StepsAndPhasesTest {
    private static final Class<IllegalArgumentException> ILLEGAL_ARGUMENT = IllegalArgumentException.class;
    private static final Class<IllegalStateException> ILLEGAL_STATE = IllegalStateException.class;
    private static final Class<UnsupportedOperationException> UNSUPPORTED =
            UnsupportedOperationException.class;

    public static void main(String[] args) {
        aNewObject();
        stepsAreCounted();
        stepsThatAreNone();
        stepsTooLateOrTooMany();
        whatStepsDo();
        start();
        phase();
        goToBoth();
        goToBothTooEarly();
        switchOver();
        switchOverWithAKeyAside();
        goBack();
        goBackCountsKeysThatChange();
        goBackComparesBothNumbers();
        goBackThatCannotBe();
        bothAgainAfterGoingBack();
        end();
        Check.end();
    }

    private static void aNewObject() {
        StoreMover mover = new StoreMover();
        Check.same("phase", mover.phase(), 'i');
        Check.same("left", mover.left(), 40);
        Check.same("behind", mover.behind(), 0);
        Check.same("parts", mover.parts(), 0);
        Check.same("compared", mover.compared(), 0);
        Check.same("sum of the source", mover.sum(false, 0, 39), 0L);
        Check.same("sum of the target", mover.sum(true, 0, 39), 0L);
        for (int i = 0; i < 40; i++) {
            int key = i;
            Check.same("state", mover.state(key), 'n');
            Check.isThrown("stamp", java.util.NoSuchElementException.class, () -> mover.stamp(key));
            Check.isThrown("read", java.util.NoSuchElementException.class, () -> mover.read(key, false));
        }
        mover.write(1, 3, 4);
        Check.same("p without steps", mover.turned(1, false), 3);
        Check.same("q without steps", mover.turned(1, true), 4);
        Check.same("another object", new StoreMover().state(1), 'n');
        Check.same("rows of another object", new StoreMover().start(), 0);
    }

    private static void stepsAreCounted() {
        StoreMover mover = new StoreMover();
        Check.same("p 999", mover.addStep('p', 999), 1);
        Check.same("p -999", mover.addStep('p', -999), 2);
        Check.same("m 9", mover.addStep('m', 9), 3);
        Check.same("m -9", mover.addStep('m', -9), 4);
        Check.same("n with any number", mover.addStep('n', Integer.MIN_VALUE), 5);
        Check.same("x with any number", mover.addStep('x', Integer.MAX_VALUE), 6);
        StoreMover other = new StoreMover();
        Check.same("s with any number", other.addStep('s', 1000), 1);
        Check.same("p 0", other.addStep('p', 0), 2);
        Check.same("m 1", other.addStep('m', 1), 3);
    }

    private static void stepsThatAreNone() {
        StoreMover mover = new StoreMover();
        char[] noKinds = {'q', 'P', 'a', (char) 0, (char) 65535};
        for (char kind : noKinds) {
            Check.isThrown("step " + (int) kind, ILLEGAL_ARGUMENT, () -> mover.addStep(kind, 1));
        }
        for (int n : new int[] {1000, -1000, Integer.MAX_VALUE, Integer.MIN_VALUE}) {
            Check.isThrown("p " + n, ILLEGAL_ARGUMENT, () -> mover.addStep('p', n));
        }
        for (int n : new int[] {0, 10, -10, Integer.MAX_VALUE, Integer.MIN_VALUE}) {
            Check.isThrown("m " + n, ILLEGAL_ARGUMENT, () -> mover.addStep('m', n));
        }
        Check.same("the first step", mover.addStep('m', 2), 1);
    }

    private static void stepsTooLateOrTooMany() {
        StoreMover full = Movers.withSteps("p1 p1 p1 p1 p1 p1");
        Check.isThrown("a seventh step", ILLEGAL_STATE, () -> full.addStep('n', 0));
        Check.isThrown("a seventh step that is none", ILLEGAL_ARGUMENT, () -> full.addStep('m', 0));
        full.write(0, 0, 0);
        Check.same("six steps", full.turned(0, false), 6);
        Movers.isThrownIn("cbtd", "addStep", ILLEGAL_STATE, mover -> mover.addStep('x', 0));
        Movers.isThrownIn("cbtd", "addStep of none", ILLEGAL_ARGUMENT, mover -> mover.addStep('y', 0));
    }

    private static void whatStepsDo() {
        comesOut("p5", 7, 2, 12, 2);
        comesOut("p-5", 7, 2, 2, 2);
        comesOut("m3", 7, 2, 21, 2);
        comesOut("m-3", 7, 2, -21, 2);
        comesOut("n0", 7, 2, -7, 2);
        comesOut("x0", 7, 2, 2, 7);
        comesOut("s0", 7, 2, 7, 9);
        comesOut("p5 m3", 7, 2, 36, 2);
        comesOut("m3 p5", 7, 2, 26, 2);
        comesOut("m3 s0 x0 n0 p1 s0", 7, 2, -22, -1);
    }

    private static void comesOut(String steps, int a, int b, int p, int q) {
        StoreMover mover = Movers.withSteps(steps);
        mover.write(4, a, b);
        Check.same(steps + " to p", mover.turned(4, false), p);
        Check.same(steps + " to q", mover.turned(4, true), q);
        Movers.toTarget(mover);
        Check.same(steps + " read p", mover.read(4, false), p);
        Check.same(steps + " read q", mover.read(4, true), q);
        Check.same(steps + " back to a", mover.turnedBack(4, false), a);
        Check.same(steps + " back to b", mover.turnedBack(4, true), b);
    }

    private static void start() {
        StoreMover mover = new StoreMover();
        mover.write(0, 1, 1);
        mover.write(39, 1, 1);
        mover.write(5, 1, 1);
        mover.write(5, 2, 2);
        mover.delete(0);
        Check.same("start", mover.start(), 2);
        Check.same("behind", mover.behind(), 0);
        Check.same("left", mover.left(), 40);
        Movers.isThrownIn("cbtd", "start", ILLEGAL_STATE, StoreMover::start);
    }

    private static void phase() {
        StoreMover mover = new StoreMover();
        mover.start();
        Check.same("phase", mover.phase(), 'c');
        mover.putDown(mover.readPart(40));
        Check.same("phase with all put down", mover.phase(), 'c');
        mover.goToBoth();
        Check.same("phase", mover.phase(), 'b');
        mover.switchOver();
        Check.same("phase", mover.phase(), 't');
        mover.goBack();
        Check.same("phase", mover.phase(), 'b');
        mover.switchOver();
        mover.end();
        Check.same("phase", mover.phase(), 'd');
    }

    private static void goToBoth() {
        StoreMover mover = Movers.withSteps("m2");
        mover.write(1, 1, 1);
        mover.start();
        mover.putDown(mover.readPart(40));
        mover.write(1, 2, 2);
        mover.write(2, 3, 3);
        mover.delete(1);
        mover.follow(1);
        Check.same("goToBoth", mover.goToBoth(), 2);
        Check.same("phase", mover.phase(), 'b');
        Check.same("behind", mover.behind(), 0);
        Check.same("a key that is gone", mover.state(1), 'n');
        Check.same("its stamp", mover.stamp(1), 3);
        Check.same("a key that is new", mover.state(2), 'e');
        Check.same("its stamp", mover.stamp(2), 2);
        StoreMover empty = Movers.in('c');
        empty.putDown(empty.readPart(40));
        Check.same("goToBoth with nothing to follow", empty.goToBoth(), 0);
    }

    private static void goToBothTooEarly() {
        Movers.isThrownIn("ibtd", "goToBoth", ILLEGAL_STATE, StoreMover::goToBoth);
        StoreMover mover = Movers.in('c');
        mover.write(3, 1, 1);
        Check.isThrown("goToBoth with no key read", UNSUPPORTED, mover::goToBoth);
        mover.putDown(mover.readPart(39));
        Check.isThrown("goToBoth with a key left", UNSUPPORTED, mover::goToBoth);
        mover.readPart(1);
        Check.isThrown("goToBoth with a part that waits", UNSUPPORTED, mover::goToBoth);
        Check.same("nothing was followed", mover.behind(), 1);
        Check.same("phase", mover.phase(), 'c');
        mover.putDown(1);
        Check.same("goToBoth", mover.goToBoth(), 1);
    }

    private static void switchOver() {
        StoreMover mover = Movers.withSteps("p3");
        mover.write(1, 1, 1);
        mover.write(2, 1, 1);
        mover.write(3, 1, 1);
        Movers.toBoth(mover);
        mover.delete(2);
        Check.same("switchOver", mover.switchOver(), 2);
        Check.same("phase", mover.phase(), 't');
        Check.same("switchOver of nothing", Movers.in('b').switchOver(), 0);
        Movers.isThrownIn("ictd", "switchOver", ILLEGAL_STATE, StoreMover::switchOver);
    }

    private static void switchOverWithAKeyAside() {
        StoreMover mover = Movers.withSteps("m9 m9");
        mover.write(1, 12, 1);
        mover.write(39, 13, 1);
        Movers.toBoth(mover);
        Check.same("state", mover.state(39), 'a');
        Check.isThrown("switchOver", UNSUPPORTED, mover::switchOver);
        Check.same("phase", mover.phase(), 'b');
        mover.write(39, -12, 1);
        Check.same("switchOver", mover.switchOver(), 2);
        mover.goBack();
        mover.write(0, -13, 0);
        Check.isThrown("switchOver", UNSUPPORTED, mover::switchOver);
        mover.delete(0);
        Check.same("switchOver", mover.switchOver(), 2);
    }

    private static void goBack() {
        StoreMover mover = Movers.withSteps("m2 s0");
        mover.write(1, 1, 1);
        mover.write(2, 2, 2);
        mover.write(3, 3, 3);
        Movers.toTarget(mover);
        mover.write(1, 8, 20);
        mover.delete(2);
        mover.write(7, -6, 0);
        Check.same("the source until then", mover.state(7), 't');
        Check.same("goBack", mover.goBack(), 3);
        Check.same("phase", mover.phase(), 'b');
        Check.same("a", mover.read(1, false), 4);
        Check.same("b", mover.read(1, true), 12);
        Check.same("a that is gone", Check.answerOf(() -> mover.read(2, false)),
                "throws.NoSuchElementException");
        Check.same("a that stays", mover.read(3, false), 3);
        Check.same("a that is new", mover.read(7, false), -3);
        Check.same("b that is new", mover.read(7, true), 6);
        Check.same("no change of the first log", mover.behind(), 0);
        Check.same("its stamp stays", mover.stamp(7), 0);
        Check.same("switchOver again", mover.switchOver(), 3);
        Check.same("the second log is empty", mover.end(), 0);
        Movers.isThrownIn("icbd", "goBack", ILLEGAL_STATE, StoreMover::goBack);
    }

    private static void goBackCountsKeysThatChange() {
        StoreMover mover = new StoreMover();
        mover.write(1, 1, 1);
        mover.write(2, 2, 2);
        mover.write(3, 3, 3);
        Movers.toTarget(mover);
        mover.write(1, 5, 5);
        mover.write(1, 6, 6);
        mover.write(2, 9, 9);
        mover.write(2, 2, 2);
        mover.delete(3);
        mover.write(3, 3, 4);
        mover.write(8, 1, 1);
        mover.delete(8);
        Check.same("goBack counts 1 and 3", mover.goBack(), 2);
        Check.same("nothing of 8", mover.state(8), 'n');
        mover.switchOver();
        Check.same("goBack at once", mover.goBack(), 0);
    }

    private static void goBackComparesBothNumbers() {
        int[][] rows = {{5, 7}, {5, 5}, {7, 5}, {7, 7}};
        for (int[] row : rows) {
            for (int[] entry : rows) {
                StoreMover mover = new StoreMover();
                mover.write(4, row[0], row[1]);
                Movers.toTarget(mover);
                mover.write(4, entry[0], entry[1]);
                String what = "goBack from " + row[0] + ", " + row[1] + " to " + entry[0] + ", " + entry[1];
                boolean isSame = row[0] == entry[0] && row[1] == entry[1];
                Check.same(what, mover.goBack(), isSame ? 0 : 1);
                Check.same("a behind " + what, mover.read(4, false), entry[0]);
                Check.same("b behind " + what, mover.read(4, true), entry[1]);
            }
        }
    }

    private static void goBackThatCannotBe() {
        StoreMover mover = Movers.withSteps("m2");
        mover.write(1, 1, 1);
        Movers.toTarget(mover);
        mover.write(1, 4, 4);
        mover.write(2, 3, 4);
        Check.isThrown("goBack with a rest", UNSUPPORTED, mover::goBack);
        Check.same("phase", mover.phase(), 't');
        Check.same("the source as before", mover.turned(1, false), 2);
        mover.write(2, 200, 4);
        Check.isThrown("goBack to 100", UNSUPPORTED, mover::goBack);
        mover.write(2, 2, 100);
        Check.isThrown("goBack with another of 100", UNSUPPORTED, mover::goBack);
        mover.write(2, -198, -99);
        Check.same("goBack", mover.goBack(), 2);
        Check.same("a", mover.read(2, false), -99);
        mover.switchOver();
        mover.write(5, 1, 1);
        mover.delete(5);
        Check.same("goBack with such an entry gone", mover.goBack(), 0);
    }

    private static void bothAgainAfterGoingBack() {
        StoreMover mover = new StoreMover();
        mover.write(1, 1, 1);
        Movers.toBoth(mover);
        mover.write(1, 2, 2);
        mover.switchOver();
        mover.write(1, 3, 3);
        Check.same("stamp of what was written", mover.stamp(1), 1);
        mover.goBack();
        Check.same("goBack is no change", mover.stamp(1), 1);
        mover.write(1, 4, 4);
        Check.same("the next change", mover.stamp(1), 2);
        Check.same("it went to the target", mover.state(1), 'e');
        mover.delete(1);
        Check.same("the change behind it", mover.stamp(1), 3);
        Check.same("it is gone", mover.state(1), 'n');
    }

    private static void end() {
        StoreMover mover = Movers.in('t');
        mover.write(1, 1, 1);
        mover.write(1, 1, 1);
        mover.delete(1);
        mover.delete(1);
        Check.same("end", mover.end(), 3);
        Check.same("phase", mover.phase(), 'd');
        Movers.isThrownIn("icbd", "end", ILLEGAL_STATE, StoreMover::end);
    }
}
