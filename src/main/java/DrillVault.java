/**
 * A backup store with restore drills, and the rota of those on call.
 * The document (shared/DOC.md) says in numbered promises what each call does.
 */
public final class DrillVault {
    /** There is none. */
    public static final int NONE = -1;

    private static final int FILES = 10;
    private static final int HIGHEST_CONTENT = 99;
    private static final int MOST_CHANGES = 300;
    private static final int MOST_COPIES = 60;

    private static final int LAST_DAY = 360;
    private static final int LONGEST_PASS = 30;

    private static final int BY_DAYS = 0;
    private static final int BY_WEEKS = 1;
    private static final int BY_MONTHS = 2;
    private static final int DAYS_OF_A_WEEK = 7;
    private static final int DAYS_OF_A_MONTH = 28;
    private static final int HIGHEST_DAYS_RULE = 30;
    private static final int HIGHEST_WEEKS_RULE = 20;
    private static final int HIGHEST_MONTHS_RULE = 12;

    private static final int PERSONS = 5;
    private static final int LAST_ROTA_DAY = 364;
    private static final int DAYS_AN_ALARM_GOES_ON = 3;
    private static final int ALL_PERSONS = 31;

    private final Files files;
    private final Shelf shelf;
    private final Rota rota;
    private int today;

    public DrillVault() {
        files = new Files();
        shelf = new Shelf();
        rota = new Rota();
        today = 0;
    }

    // ---- files, days, copies

    public int change(int file, int content)
            throws IndexOutOfBoundsException, IllegalArgumentException, IllegalStateException {
        requireFile(file);
        if (content < 0 || content > HIGHEST_CONTENT) {
            throw new IllegalArgumentException("content is out of range");
        }
        if (files.changes >= MOST_CHANGES) {
            throw new IllegalStateException("no more changes");
        }
        int before = files.contentNow(file);
        files.write(file, content);
        return before;
    }

    public int pass(int days) throws IllegalArgumentException, IllegalStateException {
        if (days < 1 || days > LONGEST_PASS) {
            throw new IllegalArgumentException("days is out of range");
        }
        if (today + days > LAST_DAY) {
            throw new IllegalStateException("beyond the last day");
        }
        today += days;
        return today;
    }

    public int full() throws IllegalStateException {
        if (shelf.made >= MOST_COPIES) {
            throw new IllegalStateException("no more copies");
        }
        Copy copy = new Copy(shelf.made, today, null, files.changes);
        files.keepAll(copy);
        shelf.put(copy);
        return copy.number;
    }

    public int increment() throws IllegalStateException {
        Copy base = shelf.latest();
        if (shelf.made >= MOST_COPIES || base == null) {
            throw new IllegalStateException("no more copies, or no base");
        }
        Copy copy = new Copy(shelf.made, today, base, files.changes);
        files.keepChanged(copy, base.changesAhead);
        shelf.put(copy);
        return copy.number;
    }

    public int damage(int copy) throws IndexOutOfBoundsException {
        Copy damaged = requireCopy(copy);
        damaged.damaged = true;
        damaged.proved = false;
        return shelf.countPromisedButDamaged();
    }

    public int drill(int copy) throws IndexOutOfBoundsException {
        Copy drilled = requireCopy(copy);
        boolean works = !drilled.hasDamagedChain();
        drilled.proveChain(works);
        return works ? drilled.chainLength() : NONE;
    }

    public int setRules(int days, int weeks, int months) throws IllegalArgumentException {
        if (days < 0 || days > HIGHEST_DAYS_RULE) {
            throw new IllegalArgumentException("days is out of range");
        }
        if (weeks < 0 || weeks > HIGHEST_WEEKS_RULE) {
            throw new IllegalArgumentException("weeks is out of range");
        }
        if (months < 0 || months > HIGHEST_MONTHS_RULE) {
            throw new IllegalArgumentException("months is out of range");
        }
        shelf.daysRule = days;
        shelf.weeksRule = weeks;
        shelf.monthsRule = months;
        return shelf.countPromised();
    }

    public int thin() {
        return shelf.takeOffLoose();
    }

    // ---- what there is

    public int day() {
        return today;
    }

    public int copies() {
        return shelf.countThere();
    }

    public int space() {
        return shelf.spaceTaken();
    }

    public int dayOf(int copy) throws IndexOutOfBoundsException {
        return requireCopy(copy).madeOn;
    }

    public int baseOf(int copy) throws IndexOutOfBoundsException {
        Copy base = requireCopy(copy).base;
        return base == null ? NONE : base.number;
    }

    public int keeps(int copy) throws IndexOutOfBoundsException {
        return requireCopy(copy).keptContents;
    }

    public boolean isPromised(int copy) throws IndexOutOfBoundsException {
        Copy asked = requireCopy(copy);
        shelf.markGenerations();
        return asked.promised;
    }

    public boolean isNeeded(int copy) throws IndexOutOfBoundsException {
        Copy asked = requireCopy(copy);
        shelf.markGenerations();
        return asked.needed;
    }

    public boolean isProved(int copy) throws IndexOutOfBoundsException {
        return requireCopy(copy).proved;
    }

    public int restore(int copy, int file) throws IndexOutOfBoundsException {
        Copy asked = requireCopy(copy);
        requireFile(file);
        return asked.contentByChain(file);
    }

    public int restoreByChanges(int copy, int file) throws IndexOutOfBoundsException {
        Copy asked = requireCopy(copy);
        requireFile(file);
        return files.contentAfter(asked.changesAhead, file);
    }

    // ---- the rota

    public int onCall(int day) throws IllegalArgumentException {
        if (day < 0 || day > LAST_ROTA_DAY) {
            throw new IllegalArgumentException("day is out of range");
        }
        return rota.personOn(day);
    }

    public int swap(int day, int other) throws IllegalArgumentException, IllegalStateException {
        if (!isOpenForSwaps(day) || !isOpenForSwaps(other) || day == other) {
            throw new IllegalArgumentException("day or other is out of range, or both are the same");
        }
        if (!rota.exchangeIfRested(day, other)) {
            throw new IllegalStateException("somebody would be on call on two days in a row");
        }
        return rota.personOn(day);
    }

    public int alarm(int answering) throws IllegalArgumentException {
        if (answering < 0 || answering > ALL_PERSONS) {
            throw new IllegalArgumentException("answering is out of range");
        }
        return rota.firstToAnswer(today, answering);
    }

    private static void requireFile(int file) {
        if (file < 0 || file >= FILES) {
            throw new IndexOutOfBoundsException("no such file");
        }
    }

    private Copy requireCopy(int number) {
        Copy copy = shelf.find(number);
        if (copy == null) {
            throw new IndexOutOfBoundsException("no such copy");
        }
        return copy;
    }

    private boolean isOpenForSwaps(int rotaDay) {
        return rotaDay >= today && rotaDay <= LAST_ROTA_DAY;
    }

    /** The contents of now, and all changes in the order in which they were made. */
    private static final class Files {
        private final int[] contents = new int[FILES];
        private final int[] changedFiles = new int[MOST_CHANGES];
        private final int[] changedTo = new int[MOST_CHANGES];
        private int changes;

        int contentNow(int file) {
            return file >= 0 && file < contents.length ? contents[file] : NONE;
        }

        void write(int file, int content) {
            if (file < 0 || file >= contents.length) {
                return;
            }
            if (changes < 0 || changes >= changedFiles.length || changes >= changedTo.length) {
                return;
            }
            contents[file] = content;
            changedFiles[changes] = file;
            changedTo[changes] = content;
            changes++;
        }

        void keepAll(Copy copy) {
            for (int file = 0; file < contents.length; file++) {
                copy.keep(file, contents[file]);
            }
        }

        void keepChanged(Copy copy, int firstChange) {
            for (int i = Math.max(firstChange, 0); i < changes && i < changedFiles.length; i++) {
                copy.keep(changedFiles[i], contentNow(changedFiles[i]));
            }
        }

        int contentAfter(int firstChanges, int file) {
            int content = 0;
            for (int i = 0; i < firstChanges && i < changedFiles.length && i < changedTo.length; i++) {
                if (changedFiles[i] == file) {
                    content = changedTo[i];
                }
            }
            return content;
        }
    }

    /** A full copy (without a base) or an increment. */
    private static final class Copy {
        private static final int NOT_KEPT = -1;

        private final int number;
        private final int madeOn;
        private final Copy base;
        private final int changesAhead;
        private final int[] kept = new int[FILES];
        private int keptContents;
        private boolean damaged;
        private boolean proved;
        // The marks below are made anew by the shelf whenever they are asked for.
        private boolean promised;
        private boolean needed;
        private boolean held;

        Copy(int number, int madeOn, Copy base, int changesAhead) {
            this.number = number;
            this.madeOn = madeOn;
            this.base = base;
            this.changesAhead = changesAhead;
            for (int file = 0; file < kept.length; file++) {
                kept[file] = NOT_KEPT;
            }
        }

        void keep(int file, int content) {
            if (file < 0 || file >= kept.length) {
                return;
            }
            if (kept[file] == NOT_KEPT) {
                keptContents++;
            }
            kept[file] = content;
        }

        int spaceTaken() {
            return keptContents + 1;
        }

        int periodOf(int kind) {
            switch (kind) {
                case BY_WEEKS:
                    return madeOn / DAYS_OF_A_WEEK;
                case BY_MONTHS:
                    return madeOn / DAYS_OF_A_MONTH;
                default:
                    return madeOn;
            }
        }

        int contentByChain(int file) {
            if (file < 0 || file >= FILES) {
                return NONE;
            }
            for (Copy copy = this; copy != null; copy = copy.base) {
                if (file < copy.kept.length && copy.kept[file] != NOT_KEPT) {
                    return copy.kept[file];
                }
            }
            return NONE;
        }

        boolean hasDamagedChain() {
            for (Copy copy = this; copy != null; copy = copy.base) {
                if (copy.damaged) {
                    return true;
                }
            }
            return false;
        }

        void proveChain(boolean works) {
            for (Copy copy = this; copy != null; copy = copy.base) {
                copy.proved = works;
            }
        }

        int chainLength() {
            int length = 0;
            for (Copy copy = this; copy != null; copy = copy.base) {
                length++;
            }
            return length;
        }

        void markChainNeeded() {
            for (Copy copy = this; copy != null && !copy.needed; copy = copy.base) {
                copy.needed = true;
            }
        }
    }

    /** The copies by number: null stands where none was made or where one was taken off. */
    private static final class Shelf {
        private final Copy[] rows = new Copy[MOST_COPIES];
        private int made;
        private int daysRule = 3;
        private int weeksRule = 2;
        private int monthsRule = 1;

        Copy find(int number) {
            return number >= 0 && number < rows.length ? rows[number] : null;
        }

        Copy latest() {
            for (int i = rows.length - 1; i >= 0; i--) {
                if (rows[i] != null) {
                    return rows[i];
                }
            }
            return null;
        }

        void put(Copy copy) {
            if (made >= 0 && made < rows.length) {
                rows[made] = copy;
                made++;
            }
        }

        int countThere() {
            int there = 0;
            for (Copy copy : rows) {
                if (copy != null) {
                    there++;
                }
            }
            return there;
        }

        int spaceTaken() {
            int space = 0;
            for (Copy copy : rows) {
                if (copy != null) {
                    space += copy.spaceTaken();
                }
            }
            return space;
        }

        void markGenerations() {
            for (Copy copy : rows) {
                if (copy != null) {
                    copy.promised = false;
                    copy.needed = false;
                }
            }
            promiseLatest(BY_DAYS, daysRule);
            promiseLatest(BY_WEEKS, weeksRule);
            promiseLatest(BY_MONTHS, monthsRule);
            for (Copy copy : rows) {
                if (copy != null && copy.promised) {
                    copy.markChainNeeded();
                }
            }
        }

        // Days never fall from one number to the next, so that from the back the first copy
        // met in a period is the last one made in it.
        private void promiseLatest(int kind, int periods) {
            int left = periods;
            int period = NONE;
            for (int i = rows.length - 1; i >= 0 && left > 0; i--) {
                Copy copy = rows[i];
                if (copy != null && copy.periodOf(kind) != period) {
                    period = copy.periodOf(kind);
                    copy.promised = true;
                    left--;
                }
            }
        }

        int countPromised() {
            markGenerations();
            int promised = 0;
            for (Copy copy : rows) {
                if (copy != null && copy.promised) {
                    promised++;
                }
            }
            return promised;
        }

        int countPromisedButDamaged() {
            markGenerations();
            int hit = 0;
            for (Copy copy : rows) {
                if (copy != null && copy.promised && copy.hasDamagedChain()) {
                    hit++;
                }
            }
            return hit;
        }

        int takeOffLoose() {
            markGenerations();
            markHeld(latestProvedDay());
            int takenBack = 0;
            for (int i = 0; i < rows.length; i++) {
                Copy copy = rows[i];
                if (copy != null && !copy.held) {
                    takenBack += copy.spaceTaken();
                    rows[i] = null;
                }
            }
            return takenBack;
        }

        private int latestProvedDay() {
            int latest = NONE;
            for (Copy copy : rows) {
                if (copy != null && copy.proved) {
                    latest = Math.max(latest, copy.madeOn);
                }
            }
            return latest;
        }

        // An increment has a higher number than its base: from the back, each copy is met
        // after all that could hold it.
        private void markHeld(int provedDay) {
            for (Copy copy : rows) {
                if (copy != null) {
                    copy.held = copy.needed || copy.madeOn >= provedDay;
                }
            }
            for (int i = rows.length - 1; i >= 0; i--) {
                Copy copy = rows[i];
                if (copy != null && copy.held && copy.base != null) {
                    copy.base.held = true;
                }
            }
        }
    }

    /** Who is on call on which day. */
    private static final class Rota {
        private final int[] persons = new int[LAST_ROTA_DAY + 1];

        Rota() {
            for (int rotaDay = 0; rotaDay < persons.length; rotaDay++) {
                persons[rotaDay] = rotaDay % PERSONS;
            }
        }

        int personOn(int rotaDay) {
            return rotaDay >= 0 && rotaDay < persons.length ? persons[rotaDay] : NONE;
        }

        boolean exchangeIfRested(int one, int other) {
            exchange(one, other);
            if (isRestedAround(one) && isRestedAround(other)) {
                return true;
            }
            exchange(one, other);
            return false;
        }

        private void exchange(int one, int other) {
            if (one < 0 || one >= persons.length || other < 0 || other >= persons.length) {
                return;
            }
            int person = persons[one];
            persons[one] = persons[other];
            persons[other] = person;
        }

        private boolean isRestedAround(int rotaDay) {
            int person = personOn(rotaDay);
            return person != personOn(rotaDay - 1) && person != personOn(rotaDay + 1);
        }

        int firstToAnswer(int firstDay, int answering) {
            for (int on = 0; on <= DAYS_AN_ALARM_GOES_ON; on++) {
                int person = personOn(firstDay + on);
                if (person >= 0 && person < PERSONS && (answering & (1 << person)) != 0) {
                    return person;
                }
            }
            return NONE;
        }
    }
}
