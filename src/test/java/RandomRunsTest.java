import java.util.Random;

/**
 * Runs of calls by rows of numbers with fixed seeds. Each answer is compared with that of
 * PlainModel, and an exception with its exception.
 */
public final class RandomRunsTest {
    private static final int RUNS = 4000;
    private static final int CALLS = 512;
    private static final int[] ODD_NUMBERS = {-1, 0, 40, 41, 120, 121, 999, 1000, -999, -1000, 99,
        100, -99, -100, Integer.MIN_VALUE, Integer.MAX_VALUE};

    private final Random numbers;
    private final StoreMover mover = new StoreMover();
    private final PlainModel model = new PlainModel();
    private final String name;
    /** Few keys make keys meet; a long stay in a phase fills its log. */
    private final int keys;
    private final int stay;
    private int calls = 0;

    private RandomRunsTest(int seed) {
        numbers = new Random(seed);
        name = "run " + seed + ", call ";
        keys = seed % 3 == 0 ? 3 : seed % 3 == 1 ? 10 : 40;
        stay = seed % 5 == 0 ? 300 : seed % 5 == 1 ? 12 : 60;
    }

    public static void main(String[] args) {
        int[] ends = new int[128];
        for (int seed = 0; seed < RUNS; seed++) {
            RandomRunsTest run = new RandomRunsTest(seed);
            run.addSteps();
            while (run.calls < CALLS) {
                run.callOne();
            }
            ends[run.model.phase()]++;
        }
        for (char phase : new char[] {'i', 'c', 'b', 't', 'd'}) {
            Check.same("some runs end in " + phase, ends[phase] > RUNS / 100, true);
        }
        Check.end();
    }

    private void addSteps() {
        int count = numbers.nextInt(8);
        for (int i = 0; i < count; i++) {
            char kind = "pmnxsq".charAt(numbers.nextInt(20) == 0 ? 5 : numbers.nextInt(5));
            int n = kind == 'm' ? numbers.nextInt(7) - 3 : numbers.nextInt(401) - 200;
            int odd = numbers.nextInt(20) == 0 ? oddNumber() : n;
            compare("addStep " + kind + " " + odd, () -> mover.addStep(kind, odd),
                    () -> model.addStep(kind, odd));
        }
    }

    private void callOne() {
        if (numbers.nextInt(stay) == 0) {
            goOn();
            return;
        }
        switch (numbers.nextInt(10)) {
            case 0, 1, 2 -> write();
            case 3 -> delete();
            case 4, 5 -> copy();
            case 6, 7 -> askOfKey();
            case 8 -> askOfRange();
            default -> askOfAll();
        }
    }

    /** Any change of the phase, though most often the next one. */
    private void goOn() {
        int next = "icbt".indexOf(model.phase());
        switch (numbers.nextInt(6) < 5 && next >= 0 ? next : numbers.nextInt(5)) {
            case 0 -> compare("start", mover::start, model::start);
            case 1 -> {
                for (int i = 0; i < 10 && model.phase() == 'c' && numbers.nextInt(30) > 0; i++) {
                    finishCopy();
                }
                compare("goToBoth", mover::goToBoth, model::goToBoth);
            }
            case 2 -> compare("switchOver", mover::switchOver, model::switchOver);
            case 3 -> compare("goBack", mover::goBack, model::goBack);
            default -> compare("end", mover::end, model::end);
        }
    }

    private void finishCopy() {
        for (int i = 0; i < 40 && model.parts() > 0; i++) {
            int part = i;
            compare("putDown " + part, () -> mover.putDown(part), () -> model.putDown(part));
        }
        compare("readPart 40", () -> mover.readPart(40), () -> model.readPart(40));
    }

    private void write() {
        int key = key();
        int one = number();
        int other = number();
        compare("write " + key + " " + one + " " + other, () -> mover.write(key, one, other),
                () -> model.write(key, one, other));
    }

    private void delete() {
        int key = key();
        compare("delete " + key, () -> mover.delete(key), () -> model.delete(key));
    }

    private void copy() {
        int few = numbers.nextInt(15) == 0 ? oddNumber() : 1 + numbers.nextInt(6);
        switch (numbers.nextInt(3)) {
            case 0 -> compare("readPart " + few, () -> mover.readPart(few), () -> model.readPart(few));
            case 1 -> compare("follow " + few, () -> mover.follow(few), () -> model.follow(few));
            default -> {
                int part = numbers.nextInt(15) == 0 ? oddNumber() : numbers.nextInt(12);
                compare("putDown " + part, () -> mover.putDown(part), () -> model.putDown(part));
            }
        }
    }

    private void askOfKey() {
        int key = key();
        boolean isSecond = numbers.nextBoolean();
        switch (numbers.nextInt(6)) {
            case 0 -> compare("read " + key, () -> mover.read(key, isSecond),
                    () -> model.read(key, isSecond));
            case 1 -> compare("state " + key, () -> mover.state(key), () -> model.state(key));
            case 2 -> compare("stamp " + key, () -> mover.stamp(key), () -> model.stamp(key));
            case 3 -> compare("turned " + key, () -> mover.turned(key, isSecond),
                    () -> model.turned(key, isSecond));
            case 4 -> compare("turnedBack " + key, () -> mover.turnedBack(key, isSecond),
                    () -> model.turnedBack(key, isSecond));
            default -> compare("goal " + key, () -> mover.goal(key), () -> model.goal(key));
        }
    }

    private void askOfRange() {
        int low = numbers.nextInt(3) == 0 ? 0 : key();
        int high = numbers.nextInt(3) == 0 ? 39 : key();
        boolean isTarget = numbers.nextBoolean();
        if (numbers.nextBoolean()) {
            compare("sum " + low + " " + high, () -> mover.sum(isTarget, low, high),
                    () -> model.sum(isTarget, low, high));
        } else {
            compare("firstUnlike " + low + " " + high, () -> mover.firstUnlike(low, high),
                    () -> model.firstUnlike(low, high));
            compare("compared", mover::compared, model::compared);
        }
    }

    private void askOfAll() {
        switch (numbers.nextInt(8)) {
            case 0 -> compare("phase", mover::phase, model::phase);
            case 1 -> compare("left", mover::left, model::left);
            case 2 -> compare("behind", mover::behind, model::behind);
            case 3 -> compare("parts", mover::parts, model::parts);
            case 4 -> compare("movedShare", mover::movedShare, model::movedShare);
            case 5 -> compare("isAllMoved", mover::isAllMoved, model::isAllMoved);
            case 6 -> compare("meanStamp", mover::meanStamp, model::meanStamp);
            default -> compare("nextNumber", mover::nextNumber, model::nextNumber);
        }
    }

    private int key() {
        return numbers.nextInt(40) == 0 ? oddNumber() : numbers.nextInt(keys);
    }

    private int number() {
        return switch (numbers.nextInt(30)) {
            case 0 -> oddNumber();
            case 1 -> numbers.nextInt(199) - 99;
            default -> numbers.nextInt(21) - 10;
        };
    }

    private int oddNumber() {
        return ODD_NUMBERS[numbers.nextInt(ODD_NUMBERS.length)];
    }

    /** No call is made behind the last one that the document promises. */
    private void compare(String call, Check.Call got, Check.Call due) {
        if (calls < CALLS) {
            calls++;
            Check.same(name + calls + ": " + call, Check.answerOf(got), Check.answerOf(due));
        }
    }
}
