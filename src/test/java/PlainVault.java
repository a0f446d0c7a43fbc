import java.util.ArrayList;
import java.util.HashSet;
import java.util.List;
import java.util.Set;
import java.util.TreeMap;
import java.util.TreeSet;

/**
 * The document's words once more, as slow and plain as can be: all is found from lists
 * of what happened. ModelTests holds DrillVault against it.
 */
final class PlainVault {
    private static final class Change {
        final int file;
        final int content;

        Change(int file, int content) {
            this.file = file;
            this.content = content;
        }
    }

    private static final class Made {
        int day;
        int base = -1;
        int changesAhead;
        final TreeMap<Integer, Integer> kept = new TreeMap<>();
        boolean there = true;
        boolean damaged;
        boolean proved;
    }

    private final List<Change> changes = new ArrayList<>();
    private final List<Made> made = new ArrayList<>();
    private final TreeMap<Integer, Integer> swapped = new TreeMap<>();
    private int[] rules = {3, 2, 1};
    private int day;

    int change(int file, int content) {
        if (file < 0 || file > 9) {
            throw new IndexOutOfBoundsException();
        }
        if (content < 0 || content > 99) {
            throw new IllegalArgumentException();
        }
        if (changes.size() == 300) {
            throw new IllegalStateException();
        }
        int before = contentAfter(changes.size(), file);
        changes.add(new Change(file, content));
        return before;
    }

    private int contentAfter(int count, int file) {
        for (int i = count - 1; i >= 0; i--) {
            if (changes.get(i).file == file) {
                return changes.get(i).content;
            }
        }
        return 0;
    }

    int pass(int days) {
        if (days < 1 || days > 30) {
            throw new IllegalArgumentException();
        }
        if (day + days > 360) {
            throw new IllegalStateException();
        }
        day += days;
        return day;
    }

    int full() {
        if (made.size() == 60) {
            throw new IllegalStateException();
        }
        Made copy = newCopy();
        for (int file = 0; file < 10; file++) {
            copy.kept.put(file, contentAfter(changes.size(), file));
        }
        return made.size() - 1;
    }

    private Made newCopy() {
        Made copy = new Made();
        copy.day = day;
        copy.changesAhead = changes.size();
        made.add(copy);
        return copy;
    }

    private List<Integer> there() {
        List<Integer> numbers = new ArrayList<>();
        for (int i = 0; i < made.size(); i++) {
            if (made.get(i).there) {
                numbers.add(i);
            }
        }
        return numbers;
    }

    int increment() {
        List<Integer> there = there();
        if (made.size() == 60 || there.isEmpty()) {
            throw new IllegalStateException();
        }
        int base = there.get(there.size() - 1);
        Made copy = newCopy();
        copy.base = base;
        for (Change change : changes.subList(made.get(base).changesAhead, changes.size())) {
            copy.kept.put(change.file, change.content);
        }
        return made.size() - 1;
    }

    private Made copy(int number) {
        if (!there().contains(number)) {
            throw new IndexOutOfBoundsException();
        }
        return made.get(number);
    }

    private List<Integer> chain(int number) {
        List<Integer> numbers = new ArrayList<>();
        for (int at = number; at != -1; at = made.get(at).base) {
            numbers.add(at);
        }
        return numbers;
    }

    private boolean damagedIn(List<Integer> numbers) {
        return numbers.stream().anyMatch(number -> made.get(number).damaged);
    }

    int damage(int number) {
        Made copy = copy(number);
        copy.damaged = true;
        copy.proved = false;
        return (int) promised().stream().filter(each -> damagedIn(chain(each))).count();
    }

    int drill(int number) {
        copy(number);
        List<Integer> chain = chain(number);
        boolean fails = damagedIn(chain);
        for (int each : chain) {
            made.get(each).proved = !fails;
        }
        return fails ? -1 : chain.size();
    }

    int setRules(int days, int weeks, int months) {
        if (days < 0 || days > 30 || weeks < 0 || weeks > 20 || months < 0 || months > 12) {
            throw new IllegalArgumentException();
        }
        rules = new int[] {days, weeks, months};
        return promised().size();
    }

    private Set<Integer> promised() {
        Set<Integer> numbers = new HashSet<>();
        int[] lengths = {1, 7, 28};
        for (int rule = 0; rule < 3; rule++) {
            TreeMap<Integer, Integer> lastOfPeriod = new TreeMap<>();
            for (int number : there()) {
                lastOfPeriod.put(made.get(number).day / lengths[rule], number);
            }
            numbers.addAll(new ArrayList<>(lastOfPeriod.descendingMap().values())
                    .subList(0, Math.min(rules[rule], lastOfPeriod.size())));
        }
        return numbers;
    }

    private Set<Integer> needed() {
        Set<Integer> numbers = new TreeSet<>();
        for (int number : promised()) {
            numbers.addAll(chain(number));
        }
        return numbers;
    }

    private boolean aheadOfAProvedOne(int number) {
        return there().stream().anyMatch(
                each -> made.get(each).proved && made.get(number).day < made.get(each).day);
    }

    int thin() {
        Set<Integer> loose = new TreeSet<>();
        Set<Integer> needed = needed();
        for (int number : there()) {
            if (!needed.contains(number) && aheadOfAProvedOne(number)) {
                loose.add(number);
            }
        }
        Set<Integer> off = new TreeSet<>(loose);
        for (int number : there()) {
            if (!loose.contains(number)) {
                off.removeAll(chain(number));
            }
        }
        int space = space();
        for (int number : off) {
            made.get(number).there = false;
        }
        return space - space();
    }

    int day() {
        return day;
    }

    int copies() {
        return there().size();
    }

    int space() {
        return there().stream().mapToInt(number -> made.get(number).kept.size() + 1).sum();
    }

    int dayOf(int number) {
        return copy(number).day;
    }

    int baseOf(int number) {
        return copy(number).base;
    }

    int keeps(int number) {
        return copy(number).kept.size();
    }

    boolean isPromised(int number) {
        copy(number);
        return promised().contains(number);
    }

    boolean isNeeded(int number) {
        copy(number);
        return needed().contains(number);
    }

    boolean isProved(int number) {
        return copy(number).proved;
    }

    int restore(int number, int file) {
        copy(number);
        if (file < 0 || file > 9) {
            throw new IndexOutOfBoundsException();
        }
        for (int each : chain(number)) {
            if (made.get(each).kept.containsKey(file)) {
                return made.get(each).kept.get(file);
            }
        }
        throw new AssertionError("a full copy keeps all files");
    }

    int restoreByChanges(int number, int file) {
        Made copy = copy(number);
        if (file < 0 || file > 9) {
            throw new IndexOutOfBoundsException();
        }
        return contentAfter(copy.changesAhead, file);
    }

    int onCall(int asked) {
        if (asked < 0 || asked > 364) {
            throw new IllegalArgumentException();
        }
        return swapped.getOrDefault(asked, asked % 5);
    }

    int swap(int one, int other) {
        if (one < day || one > 364 || other < day || other > 364 || one == other) {
            throw new IllegalArgumentException();
        }
        TreeMap<Integer, Integer> before = new TreeMap<>(swapped);
        int person = onCall(one);
        swapped.put(one, onCall(other));
        swapped.put(other, person);
        for (int each = 0; each < 364; each++) {
            if (onCall(each) == onCall(each + 1)) {
                swapped.clear();
                swapped.putAll(before);
                throw new IllegalStateException();
            }
        }
        return onCall(one);
    }

    int alarm(int answering) {
        if (answering < 0 || answering > 31) {
            throw new IllegalArgumentException();
        }
        for (int each = day; each <= day + 3; each++) {
            if ((answering >> onCall(each)) % 2 == 1) {
                return onCall(each);
            }
        }
        return -1;
    }
}
