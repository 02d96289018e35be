import java.util.function.Supplier;

/** Pairs of objects with the same calls behind them: one makes a refused call more. */
final class Twins {
    private static final int[] KEYS = {0, 1, 2, 3, 39};

    private Twins() {
    }

    /** The call is refused, and nothing that can be asked, then or later, tells that it was made. */
    static void refuses(String what, Supplier<StoreMover> make, Class<? extends RuntimeException> due,
            Movers.On call) {
        StoreMover mover = make.get();
        StoreMover twin = make.get();
        Check.isThrown(what, due, () -> call.answer(mover));
        Check.same(what + " changes nothing", tell(mover), tell(twin));
        Check.same(what + " changes nothing later", goOn(mover), goOn(twin));
    }

    /** Answers of all calls that only ask. */
    static String tell(StoreMover mover) {
        StringBuilder text = new StringBuilder();
        add(text, mover::phase);
        add(text, mover::left);
        add(text, mover::behind);
        add(text, mover::parts);
        add(text, mover::compared);
        add(text, mover::movedShare);
        add(text, mover::isAllMoved);
        add(text, mover::meanStamp);
        add(text, () -> mover.sum(false, 0, 39));
        add(text, () -> mover.sum(true, 0, 39));
        for (int key : KEYS) {
            add(text, () -> mover.state(key));
            add(text, () -> mover.stamp(key));
            add(text, () -> mover.goal(key));
            for (boolean isSecond : new boolean[] {false, true}) {
                add(text, () -> mover.read(key, isSecond));
                add(text, () -> mover.turned(key, isSecond));
                add(text, () -> mover.turnedBack(key, isSecond));
            }
        }
        return text.toString();
    }

    /** Answers of calls that lead through all phases that are still to come, and what is there then. */
    private static String goOn(StoreMover mover) {
        StringBuilder text = new StringBuilder();
        add(text, () -> mover.addStep('s', 0));
        add(text, mover::nextNumber);
        add(text, mover::start);
        for (int part = 0; part < 10; part++) {
            int number = part;
            add(text, () -> mover.putDown(number));
        }
        add(text, () -> mover.readPart(40));
        for (int part = 0; part < 10; part++) {
            int number = part;
            add(text, () -> mover.putDown(number));
        }
        add(text, () -> mover.follow(1));
        add(text, mover::goToBoth);
        add(text, () -> mover.delete(1));
        add(text, mover::switchOver);
        add(text, mover::nextNumber);
        add(text, () -> mover.write(2, 81, 2));
        add(text, mover::goBack);
        add(text, () -> mover.write(3, 3, 3));
        add(text, mover::switchOver);
        add(text, mover::end);
        return text.append(tell(mover)).toString();
    }

    private static void add(StringBuilder text, Check.Call call) {
        text.append(Check.answerOf(call)).append(' ');
    }
}
