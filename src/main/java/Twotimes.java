/** Two tables with a time of validity and a time of record. */
public final class Twotimes {
    private static final int TABLES = 2;
    private static final int KEYS = 8;
    private static final int DAYS = 60;
    private static final int LINES = TABLES * KEYS;
    private static final int VALUES = 100;
    private static final int NONE = -1;

    // By day of record, line (a key of a table) and day of validity. Only days that have been
    // today have entries of their own; one array for all, so that no call has to make another.
    private final int[] known = new int[DAYS * LINES * DAYS];

    // For each day of record up to today: the last day up to it that has been today. The days
    // that pass() leaps over could not be changed, so they know what the day before them knew.
    private final int[] keptOn = new int[DAYS];

    // The values that a key is to have, looked at as a whole before any of them is recorded, so
    // that a change which is not possible leaves nothing behind.
    private final int[] draft = new int[DAYS];

    private int today;

    public Twotimes() {
        // Day 0 alone: pass() copies it onto the later days.
        for (int index = 0; index < LINES * DAYS; index++) {
            known[index] = NONE;
        }
    }

    // ---- changes

    public int put(int table, int key, int value, int from, int to)
            throws IllegalArgumentException, IllegalStateException {
        needTableAndKey(table, key);
        needRange(value, valuesOf(table));
        needSpan(from, to);
        draftSpan(line(table, key), from, to, value);
        return recordDraft(table, key);
    }

    public int erase(int table, int key, int from, int to)
            throws IllegalArgumentException, IllegalStateException {
        needTableAndKey(table, key);
        needSpan(from, to);
        draftSpan(line(table, key), from, to, NONE);
        return recordDraft(table, key);
    }

    public int eraseAll(int key, int from, int to) throws IllegalArgumentException {
        needRange(key, KEYS);
        needSpan(from, to);
        int lost = 0;
        for (int day = from; day < to; day++) {
            lost += loseWithReferences(key, day);
        }
        return lost;
    }

    public int restore(int table, int key, int record)
            throws IllegalArgumentException, IndexOutOfBoundsException, IllegalStateException {
        needTableAndKey(table, key);
        needRecord(record);
        draftRecord(line(table, key), record);
        return recordDraft(table, key);
    }

    public int pass(int days) throws IllegalArgumentException, IllegalStateException {
        if (days < 1 || days >= DAYS) {
            throw new IllegalArgumentException("days");
        }
        if (today + days >= DAYS) {
            throw new IllegalStateException("the last day");
        }
        int next = today + days;
        for (int day = today + 1; day < next; day++) {
            keepOn(day, today);
        }
        keepOn(next, next);
        copyDay(today, next);
        today = next;
        return today;
    }

    public int today() {
        return today;
    }

    // ---- questions as of two days

    public int value(int table, int key, int valid, int record)
            throws IllegalArgumentException, IndexOutOfBoundsException {
        needTableAndKey(table, key);
        needRange(valid, DAYS);
        needRecord(record);
        return knownOn(record, line(table, key), valid);
    }

    public int keys(int table, int valid, int record)
            throws IllegalArgumentException, IndexOutOfBoundsException {
        needRange(table, TABLES);
        needRange(valid, DAYS);
        needRecord(record);
        int set = 0;
        for (int key = 0; key < KEYS; key++) {
            if (knownOn(record, line(table, key), valid) != NONE) {
                set |= 1 << key;
            }
        }
        return set;
    }

    public int joined(int key, int valid, int record)
            throws IllegalArgumentException, IndexOutOfBoundsException {
        needRange(key, KEYS);
        needRange(valid, DAYS);
        needRecord(record);
        return joinedOn(record, key, valid);
    }

    // ---- runs and rows

    public int runs(int table, int key, int record)
            throws IllegalArgumentException, IndexOutOfBoundsException {
        needTableAndKey(table, key);
        needRecord(record);
        int line = line(table, key);
        int count = 0;
        for (int day = 0; day < DAYS; day++) {
            if (startsRun(record, line, day)) {
                count++;
            }
        }
        return count;
    }

    public int run(int table, int key, int record, int run)
            throws IllegalArgumentException, IndexOutOfBoundsException {
        needTableAndKey(table, key);
        needRecord(record);
        int line = line(table, key);
        int first = firstDayOfRun(record, line, run);
        if (first == NONE) {
            throw new IndexOutOfBoundsException("run");
        }
        return runNumber(record, line, first);
    }

    public int joinedRuns(int key, int record)
            throws IllegalArgumentException, IndexOutOfBoundsException {
        needRange(key, KEYS);
        needRecord(record);
        int count = 0;
        for (int day = 0; day < DAYS; day++) {
            if (startsJoinedRun(record, key, day)) {
                count++;
            }
        }
        return count;
    }

    public int rows(int table, int key) throws IllegalArgumentException {
        needTableAndKey(table, key);
        int line = line(table, key);
        int count = 0;
        for (int record = 0; record <= today; record++) {
            for (int day = 0; day < DAYS && isKept(record); day++) {
                if (startsRow(record, line, day)) {
                    count++;
                }
            }
        }
        return count;
    }

    public int rowRun(int table, int key, int row)
            throws IllegalArgumentException, IndexOutOfBoundsException {
        needTableAndKey(table, key);
        int line = line(table, key);
        int start = startOfRow(line, row);
        return runNumber(recordOfStart(start), line, validOfStart(start));
    }

    public int rowFrom(int table, int key, int row)
            throws IllegalArgumentException, IndexOutOfBoundsException {
        needTableAndKey(table, key);
        return recordOfStart(startOfRow(line(table, key), row));
    }

    public int rowTo(int table, int key, int row)
            throws IllegalArgumentException, IndexOutOfBoundsException {
        needTableAndKey(table, key);
        int line = line(table, key);
        int start = startOfRow(line, row);
        int from = recordOfStart(start);
        int first = validOfStart(start);
        for (int record = from + 1; record <= today; record++) {
            if (!sameRun(from, record, line, first)) {
                return record;
            }
        }
        return NONE;
    }

    // ---- questions between and throughout

    public int corrections(int table, int key, int valid, int from, int to)
            throws IllegalArgumentException, IndexOutOfBoundsException {
        needTableAndKey(table, key);
        needRange(valid, DAYS);
        needRange(from, DAYS);
        if (to < from) {
            throw new IllegalArgumentException("to");
        }
        needRecord(to);
        int line = line(table, key);
        int count = 0;
        for (int record = from + 1; record <= to; record++) {
            if (knownOn(record, line, valid) != knownOn(record - 1, line, valid)) {
                count++;
            }
        }
        return count;
    }

    public int longest(int table, int key, int record)
            throws IllegalArgumentException, IndexOutOfBoundsException {
        needTableAndKey(table, key);
        needRecord(record);
        int line = line(table, key);
        int most = 0;
        for (int day = 0; day < DAYS; day++) {
            if (startsRun(record, line, day)) {
                most = Math.max(most, endOfRun(record, line, day) - day);
            }
        }
        return most;
    }

    public float average(int key, int record)
            throws IllegalArgumentException, IndexOutOfBoundsException, IllegalStateException {
        needRange(key, KEYS);
        needRecord(record);
        int sum = 0;
        int days = 0;
        for (int day = 0; day < DAYS; day++) {
            int value = knownOn(record, line(0, key), day);
            if (value != NONE) {
                sum += value;
                days++;
            }
        }
        if (days == 0) {
            throw new IllegalStateException("no values");
        }
        return (float) sum / (float) days;
    }

    // ---- what the calls need of their arguments

    private static void needRange(int number, int end) {
        if (number < 0 || number >= end) {
            throw new IllegalArgumentException("out of range");
        }
    }

    private static void needTableAndKey(int table, int key) {
        needRange(table, TABLES);
        needRange(key, KEYS);
    }

    private static void needSpan(int from, int to) {
        needRange(from, DAYS);
        if (to <= from || to > DAYS) {
            throw new IllegalArgumentException("span");
        }
    }

    // Called behind all other checks of ranges, as out of range goes ahead of not yet there.
    private void needRecord(int record) {
        needRange(record, DAYS);
        if (record > today) {
            throw new IndexOutOfBoundsException("record");
        }
    }

    // ---- the store

    private static int valuesOf(int table) {
        return table == 0 ? VALUES : KEYS;
    }

    private static int line(int table, int key) {
        return table * KEYS + key;
    }

    private int knownOn(int record, int line, int valid) {
        if (record < 0 || record >= DAYS) {
            return NONE;
        }
        int index = index(keptOn[record], line, valid);
        return index < 0 || index >= known.length ? NONE : known[index];
    }

    private void recordToday(int line, int valid, int value) {
        int index = index(today, line, valid);
        if (index >= 0 && index < known.length) {
            known[index] = value;
        }
    }

    private static int index(int record, int line, int valid) {
        return (record * LINES + line) * DAYS + valid;
    }

    private void keepOn(int record, int day) {
        if (record >= 0 && record < DAYS) {
            keptOn[record] = day;
        }
    }

    private void copyDay(int from, int to) {
        if (from >= 0 && from < DAYS && to >= 0 && to < DAYS) {
            System.arraycopy(known, index(from, 0, 0), known, index(to, 0, 0), LINES * DAYS);
        }
    }

    // ---- changes of today

    private void draftSpan(int line, int from, int to, int value) {
        for (int day = 0; day < DAYS; day++) {
            draft[day] = day >= from && day < to ? value : knownOn(today, line, day);
        }
    }

    private void draftRecord(int line, int record) {
        for (int day = 0; day < DAYS; day++) {
            draft[day] = knownOn(record, line, day);
        }
    }

    private int recordDraft(int table, int key) {
        if (!draftKeepsReferences(table, key)) {
            throw new IllegalStateException("references");
        }
        int line = line(table, key);
        int changes = 0;
        for (int day = 0; day < DAYS; day++) {
            if (knownOn(today, line, day) != draft[day]) {
                recordToday(line, day, draft[day]);
                changes++;
            }
        }
        return changes;
    }

    private boolean draftKeepsReferences(int table, int key) {
        for (int day = 0; day < DAYS; day++) {
            int value = draft[day];
            if (table == 0 && value == NONE && isReferredTo(key, day)) {
                return false;
            }
            if (table == 1 && value != NONE && knownOn(today, line(0, value), day) == NONE) {
                return false;
            }
        }
        return true;
    }

    private boolean isReferredTo(int key, int valid) {
        for (int referring = 0; referring < KEYS; referring++) {
            if (knownOn(today, line(1, referring), valid) == key) {
                return true;
            }
        }
        return false;
    }

    private int loseWithReferences(int key, int valid) {
        int lost = lose(line(0, key), valid);
        for (int referring = 0; referring < KEYS; referring++) {
            if (knownOn(today, line(1, referring), valid) == key) {
                lost += lose(line(1, referring), valid);
            }
        }
        return lost;
    }

    private int lose(int line, int valid) {
        if (knownOn(today, line, valid) == NONE) {
            return 0;
        }
        recordToday(line, valid, NONE);
        return 1;
    }

    // ---- runs

    private boolean startsRun(int record, int line, int valid) {
        int value = knownOn(record, line, valid);
        return value != NONE && (valid == 0 || knownOn(record, line, valid - 1) != value);
    }

    private int endOfRun(int record, int line, int first) {
        int value = knownOn(record, line, first);
        int day = first + 1;
        while (day < DAYS && knownOn(record, line, day) == value) {
            day++;
        }
        return day;
    }

    private int firstDayOfRun(int record, int line, int run) {
        int before = 0;
        for (int day = 0; day < DAYS; day++) {
            if (startsRun(record, line, day)) {
                if (before == run) {
                    return day;
                }
                before++;
            }
        }
        return NONE;
    }

    private int runNumber(int record, int line, int first) {
        return 10000 * first + 100 * endOfRun(record, line, first) + knownOn(record, line, first);
    }

    private int joinedOn(int record, int key, int valid) {
        int referred = knownOn(record, line(1, key), valid);
        return referred == NONE ? NONE : knownOn(record, line(0, referred), valid);
    }

    private boolean startsJoinedRun(int record, int key, int valid) {
        if (knownOn(record, line(1, key), valid) == NONE) {
            return false;
        }
        return startsRun(record, line(1, key), valid)
                || joinedOn(record, key, valid) != joinedOn(record, key, valid - 1);
    }

    // ---- rows: a row is told by its start, its first day of record and of validity in one number

    private static int recordOfStart(int start) {
        return start / DAYS;
    }

    private static int validOfStart(int start) {
        return start % DAYS;
    }

    private int startOfRow(int line, int row) {
        int before = 0;
        for (int record = 0; record <= today; record++) {
            for (int day = 0; day < DAYS && isKept(record); day++) {
                if (startsRow(record, line, day)) {
                    if (before == row) {
                        return record * DAYS + day;
                    }
                    before++;
                }
            }
        }
        throw new IndexOutOfBoundsException("row");
    }

    // Rows start on days alone that have been today: only there something could change.
    private boolean isKept(int record) {
        return record >= 0 && record < DAYS && keptOn[record] == record;
    }

    private boolean startsRow(int record, int line, int valid) {
        return startsRun(record, line, valid)
                && (record == 0 || !sameRun(record, record - 1, line, valid));
    }

    private boolean sameRun(int record, int other, int line, int first) {
        return startsRun(other, line, first)
                && knownOn(other, line, first) == knownOn(record, line, first)
                && endOfRun(other, line, first) == endOfRun(record, line, first);
    }
}
