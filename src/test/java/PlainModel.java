import java.util.ArrayList;
import java.util.List;
import java.util.Map;
import java.util.NoSuchElementException;
import java.util.TreeMap;
import java.util.TreeSet;

/**
 * The document told a second time, with maps and lists and without a thought of speed. It shares
 * no code with StoreMover, so that both would have to be wrong alike.
 */
final class PlainModel {
    record Two(int one, int other) { }

    record Step(char kind, int n) { }

    /** The row of a key, or null if the key was taken away. */
    record Change(int key, Two row) { }

    record Part(Map<Integer, Two> rows, int stamp) { }

    /** An entry has two numbers; what is aside or a trace has none. */
    record Place(char kind, Two numbers, int stamp) { }

    private final List<Step> steps = new ArrayList<>();
    private final Map<Integer, Two> source = new TreeMap<>();
    private final Map<Integer, Place> target = new TreeMap<>();
    private final List<Change> log = new ArrayList<>();
    private final List<Integer> secondLog = new ArrayList<>();
    private final Map<Integer, Part> waiting = new TreeMap<>();
    private char phase = 'i';
    private int followed = 0;
    private int keysRead = 0;
    private int partsRead = 0;
    private int evens = 0;
    private int odds = 0;
    private int compared = 0;

    int addStep(char kind, int n) {
        if ("pmnxs".indexOf(kind) < 0) {
            throw new IllegalArgumentException();
        }
        if (kind == 'p' && (n < -999 || n > 999) || kind == 'm' && (n == 0 || n < -9 || n > 9)) {
            throw new IllegalArgumentException();
        }
        stateIs(phase == 'i' && steps.size() < 6);
        steps.add(new Step(kind, n));
        return steps.size();
    }

    int start() {
        stateIs(phase == 'i');
        phase = 'c';
        return source.size();
    }

    char phase() {
        return phase;
    }

    int goToBoth() {
        stateIs(phase == 'c');
        supports(keysRead == 40 && waiting.isEmpty());
        int count = followAll();
        phase = 'b';
        return count;
    }

    int switchOver() {
        stateIs(phase == 'b');
        boolean isAnyAside = target.values().stream().anyMatch(place -> place.kind() == 'a');
        supports(!isAnyAside && sum(true, 0, 39) == sum(false, 0, 39));
        phase = 't';
        return entries().size();
    }

    int goBack() {
        stateIs(phase == 't');
        Map<Integer, Two> before = new TreeMap<>(source);
        Map<Integer, Two> after = new TreeMap<>(source);
        for (int key : secondLog) {
            Two entry = entries().get(key);
            if (entry == null) {
                after.remove(key);
            } else {
                supports(back(entry) != null);
                after.put(key, back(entry));
            }
        }
        source.clear();
        source.putAll(after);
        secondLog.clear();
        phase = 'b';
        TreeSet<Integer> keys = new TreeSet<>(before.keySet());
        keys.addAll(after.keySet());
        keys.removeIf(key -> before.containsKey(key) && before.get(key).equals(after.get(key)));
        return keys.size();
    }

    int end() {
        stateIs(phase == 't');
        phase = 'd';
        return secondLog.size();
    }

    boolean write(int key, int one, int other) {
        isKey(key);
        int limit = "icb".indexOf(phase) >= 0 ? 99 : 999;
        if (one < -limit || one > limit || other < -limit || other > limit) {
            throw new IllegalArgumentException();
        }
        stateIs(phase != 'd' && hasRoom());
        boolean wasThere = live().containsKey(key);
        change(key, new Two(one, other));
        return wasThere;
    }

    boolean delete(int key) {
        isKey(key);
        stateIs(phase != 'd');
        if (!live().containsKey(key)) {
            return false;
        }
        stateIs(hasRoom());
        change(key, null);
        return true;
    }

    private void change(int key, Two row) {
        if (phase == 't') {
            target.put(key, new Place(row == null ? 'x' : 'e', row, log.size()));
            secondLog.add(key);
            return;
        }
        if (row == null) {
            source.remove(key);
        } else {
            source.put(key, row);
        }
        if (phase != 'i') {
            log.add(new Change(key, row));
        }
        if (phase == 'b') {
            followAll();
        }
    }

    private boolean hasRoom() {
        return switch (phase) {
            case 'i' -> true;
            case 't' -> secondLog.size() < 120;
            default -> log.size() < 120;
        };
    }

    private Map<Integer, Two> live() {
        return phase == 't' || phase == 'd' ? entries() : source;
    }

    int read(int key, boolean isSecond) {
        isKey(key);
        return pick(live().get(key), isSecond);
    }

    int nextNumber() {
        stateIs(phase != 'd');
        return phase == 't' ? 2 * odds++ + 1 : 2 * evens++;
    }

    int readPart(int keys) {
        if (keys < 1 || keys > 40) {
            throw new IllegalArgumentException();
        }
        stateIs(phase == 'c' && keysRead < 40 && waiting.size() < 8);
        Map<Integer, Two> rows = new TreeMap<>();
        for (int i = 0; i < keys && keysRead < 40; i++, keysRead++) {
            if (source.containsKey(keysRead)) {
                rows.put(keysRead, source.get(keysRead));
            }
        }
        waiting.put(partsRead, new Part(rows, log.size()));
        return partsRead++;
    }

    int putDown(int number) {
        Part part = waiting.remove(number);
        if (part == null) {
            throw new IndexOutOfBoundsException();
        }
        int count = 0;
        for (Map.Entry<Integer, Two> row : part.rows().entrySet()) {
            count += settle(row.getKey(), row.getValue(), part.stamp()) ? 1 : 0;
        }
        return count;
    }

    int follow(int changes) {
        if (changes < 1 || changes > 120) {
            throw new IllegalArgumentException();
        }
        stateIs(phase == 'c');
        int count = 0;
        while (count < changes && followed < log.size()) {
            followOne();
            count++;
        }
        return count;
    }

    private int followAll() {
        int count = 0;
        while (followed < log.size()) {
            followOne();
            count++;
        }
        return count;
    }

    private void followOne() {
        Change change = log.get(followed);
        followed++;
        settle(change.key(), change.row(), followed);
    }

    private boolean settle(int key, Two row, int stamp) {
        if (target.containsKey(key) && target.get(key).stamp() >= stamp) {
            return false;
        }
        Two entry = row == null ? null : forth(row);
        char kind = row == null ? 'x' : entry == null ? 'a' : 'e';
        target.put(key, new Place(kind, entry, stamp));
        return true;
    }

    int left() {
        return 40 - keysRead;
    }

    int behind() {
        return log.size() - followed;
    }

    int parts() {
        return waiting.size();
    }

    char state(int key) {
        isKey(key);
        Two row = source.get(key);
        Two entry = entries().get(key);
        if (target.containsKey(key) && target.get(key).kind() == 'a') {
            return 'a';
        }
        if (row == null && entry == null) {
            return 'n';
        }
        if (entry == null) {
            return 's';
        }
        if (row == null) {
            return 't';
        }
        return entry.equals(forth(row)) ? 'e' : 'u';
    }

    int stamp(int key) {
        isKey(key);
        if (!target.containsKey(key)) {
            throw new NoSuchElementException();
        }
        return target.get(key).stamp();
    }

    int turned(int key, boolean isSecond) {
        isKey(key);
        pick(source.get(key), isSecond);
        supports(forth(source.get(key)) != null);
        return pick(forth(source.get(key)), isSecond);
    }

    int turnedBack(int key, boolean isSecond) {
        isKey(key);
        pick(entries().get(key), isSecond);
        supports(back(entries().get(key)) != null);
        return pick(back(entries().get(key)), isSecond);
    }

    long sum(boolean isTarget, int low, int high) {
        isRange(low, high);
        long sum = 0;
        for (int key = low; key <= high; key++) {
            Two numbers = isTarget ? entries().get(key)
                    : source.containsKey(key) ? forth(source.get(key)) : null;
            if (numbers != null) {
                sum += 1000 * key + 31 * numbers.one() + numbers.other() + 1;
            }
        }
        return sum;
    }

    int firstUnlike(int low, int high) {
        isRange(low, high);
        compared = 0;
        return find(low, high).orElseThrow(NoSuchElementException::new);
    }

    private java.util.Optional<Integer> find(int low, int high) {
        compared++;
        if (sum(true, low, high) == sum(false, low, high)) {
            return java.util.Optional.empty();
        }
        if (low == high) {
            return java.util.Optional.of(low);
        }
        int keysOfFirst = (high - low + 2) / 2;
        java.util.Optional<Integer> inFirst = find(low, low + keysOfFirst - 1);
        return inFirst.isPresent() ? inFirst : find(low + keysOfFirst, high);
    }

    int compared() {
        return compared;
    }

    char goal(int key) {
        isKey(key);
        stateIs(phase == 'c' || phase == 'b');
        if (!source.containsKey(key)) {
            return 'n';
        }
        return forth(source.get(key)) == null ? 'a' : 'e';
    }

    float movedShare() {
        if (source.isEmpty()) {
            throw new ArithmeticException();
        }
        return (float) source.keySet().stream().filter(key -> state(key) == 'e').count()
                / (float) source.size();
    }

    boolean isAllMoved() {
        return !source.isEmpty() && movedShare() == 1.0f;
    }

    double meanStamp() {
        int entries = entries().size();
        if (entries == 0) {
            throw new ArithmeticException();
        }
        int sum = entries().keySet().stream().mapToInt(key -> target.get(key).stamp()).sum();
        return (double) sum / (double) entries;
    }

    private Map<Integer, Two> entries() {
        Map<Integer, Two> entries = new TreeMap<>();
        target.forEach((key, place) -> {
            if (place.kind() == 'e') {
                entries.put(key, place.numbers());
            }
        });
        return entries;
    }

    /** What a row comes out as, or null if it cannot be turned. */
    private Two forth(Two row) {
        Two now = row;
        for (Step step : steps) {
            int x = now.one();
            int y = now.other();
            now = switch (step.kind()) {
                case 'p' -> new Two(x + step.n(), y);
                case 'm' -> new Two(x * step.n(), y);
                case 'n' -> new Two(-x, y);
                case 'x' -> new Two(y, x);
                default -> new Two(x, y + x);
            };
            if (Math.abs(now.one()) > 99999 || Math.abs(now.other()) > 99999) {
                return null;
            }
        }
        return Math.abs(now.one()) > 999 || Math.abs(now.other()) > 999 ? null : now;
    }

    /** What an entry is turned back, or null if it cannot be. */
    private Two back(Two entry) {
        Two now = entry;
        for (int i = steps.size() - 1; i >= 0; i--) {
            Step step = steps.get(i);
            int x = now.one();
            int y = now.other();
            if (step.kind() == 'm' && Math.floorMod(x, step.n()) != 0) {
                return null;
            }
            now = switch (step.kind()) {
                case 'p' -> new Two(x - step.n(), y);
                case 'm' -> new Two(x / step.n(), y);
                case 'n' -> new Two(-x, y);
                case 'x' -> new Two(y, x);
                default -> new Two(x, y - x);
            };
        }
        return Math.abs(now.one()) > 99 || Math.abs(now.other()) > 99 ? null : now;
    }

    private static int pick(Two numbers, boolean isSecond) {
        if (numbers == null) {
            throw new NoSuchElementException();
        }
        return isSecond ? numbers.other() : numbers.one();
    }

    private static void isKey(int key) {
        if (key < 0 || key >= 40) {
            throw new IllegalArgumentException();
        }
    }

    private static void isRange(int low, int high) {
        isKey(low);
        isKey(high);
        if (low > high) {
            throw new IllegalArgumentException();
        }
    }

    private static void stateIs(boolean isRight) {
        if (!isRight) {
            throw new IllegalStateException();
        }
    }

    private static void supports(boolean isPossible) {
        if (!isPossible) {
            throw new UnsupportedOperationException();
        }
    }
}
