/** For each promise of the document: ordinary inputs, the edges that it names, and wrong inputs. */
public final class PromiseTests {
    private static final int[] WRONG_TABLES = {-1, 2, Integer.MIN_VALUE, Integer.MAX_VALUE};
    private static final int[] WRONG_KEYS = {-1, 8, Integer.MIN_VALUE, Integer.MAX_VALUE};
    private static final int[] WRONG_DAYS = {-1, 60, Integer.MIN_VALUE, Integer.MAX_VALUE};
    /** Pairs of from and to. */
    private static final int[] WRONG_SPANS = {
        -1, 5, 60, 61, 60, 60, 5, 5, 5, 4, 5, 61, 0, 0, 0, -1, 59, 59, 59, 61,
        Integer.MAX_VALUE, Integer.MIN_VALUE, Integer.MIN_VALUE, Integer.MAX_VALUE,
        0, Integer.MAX_VALUE, 0, Integer.MIN_VALUE, Integer.MAX_VALUE, Integer.MAX_VALUE,
    };

    interface OfTwo {
        double answer(int a, int b);
    }

    interface OfOne {
        double answer(int a);
    }

    public static void main(String[] args) {
        newObject();
        put();
        erase();
        eraseAll();
        restore();
        pass();
        today();
        value();
        keys();
        joined();
        runs();
        run();
        joinedRuns();
        rows();
        rowRun();
        rowFrom();
        rowTo();
        corrections();
        longest();
        average();
        Check.end("PromiseTests");
    }

    // ---- inputs out of range

    private static void illegalTablesAndKeys(String what, OfTwo call) {
        for (int table : WRONG_TABLES) {
            Check.illegal(what + " of table " + table, () -> call.answer(table, 0));
        }
        for (int key : WRONG_KEYS) {
            Check.illegal(what + " of key " + key, () -> call.answer(0, key));
            Check.illegal(what + " of table 1, key " + key, () -> call.answer(1, key));
        }
    }

    private static void illegalKeys(String what, OfOne call) {
        for (int key : WRONG_KEYS) {
            Check.illegal(what + " of key " + key, () -> call.answer(key));
        }
    }

    private static void illegalDays(String what, OfOne call) {
        for (int day : WRONG_DAYS) {
            Check.illegal(what + " of day " + day, () -> call.answer(day));
        }
    }

    private static void illegalSpans(String what, OfTwo call) {
        for (int i = 0; i < WRONG_SPANS.length; i += 2) {
            int from = WRONG_SPANS[i];
            int to = WRONG_SPANS[i + 1];
            Check.illegal(what + " from " + from + " to " + to, () -> call.answer(from, to));
        }
    }

    /** Out of range goes first, then later than today, for a day of record ahead of today 3. */
    private static void records(String what, OfOne call) {
        illegalDays(what + " with a record", call);
        Check.outOfBounds(what + " on record 4", () -> call.answer(4));
        Check.outOfBounds(what + " on record 59", () -> call.answer(59));
    }

    // ---- objects to ask

    /** Key 2 of table 0 has 10 on days 0 to 9, 20 on 10 to 19; today is 3. */
    private static Counted two() {
        Counted x = new Counted();
        x.put(0, 2, 10, 0, 10);
        x.put(0, 2, 20, 10, 20);
        x.pass(3);
        return x;
    }

    // ---- promises

    private static void newObject() {
        Check.topic("1 A new object");
        Counted x = new Counted();
        Check.due("today", x.today(), 0);
        for (int table = 0; table < 2; table++) {
            for (int key = 0; key < 8; key++) {
                Check.due("runs", x.runs(table, key, 0), 0);
                Check.due("rows", x.rows(table, key), 0);
                for (int day = 0; day < 60; day += 5) {
                    Check.due("value", x.value(table, key, day, 0), -1);
                }
            }
        }
        x.put(0, 0, 1, 0, 60);
        Check.due("another object's value", new Counted().value(0, 0, 0, 0), -1);
    }

    private static void put() {
        Check.topic("2 put");
        Counted x = new Counted();
        Check.due("on no value", x.put(0, 2, 10, 5, 15), 10);
        Check.due("first day", x.value(0, 2, 5, 0), 10);
        Check.due("last day", x.value(0, 2, 14, 0), 10);
        Check.due("day before", x.value(0, 2, 4, 0), -1);
        Check.due("day behind", x.value(0, 2, 15, 0), -1);
        Check.due("another key", x.value(0, 3, 5, 0), -1);
        Check.due("the other table", x.value(1, 2, 5, 0), -1);
        Check.due("the same again", x.put(0, 2, 10, 5, 15), 0);
        Check.due("partly the same", x.put(0, 2, 10, 0, 20), 10);
        Check.due("another value over two", x.put(0, 2, 0, 19, 22), 3);
        Check.due("greatest value, all days", x.put(0, 7, 99, 0, 60), 60);
        Check.due("last day alone", x.put(0, 6, 1, 59, 60), 1);
        x.pass(2);
        Check.due("on a later day of record", x.put(0, 2, 11, 5, 6), 1);
        Check.due("known before", x.value(0, 2, 5, 1), 10);
        Check.due("known today", x.value(0, 2, 5, 2), 11);
        putReferences();
        illegalTablesAndKeys("put", (table, key) -> x.put(table, key, 0, 0, 1));
        illegalSpans("put", (from, to) -> x.put(0, 0, 0, from, to));
        illegalSpans("put in table 1", (from, to) -> x.put(1, 0, 0, from, to));
        for (int value : new int[] {-1, 100, Integer.MIN_VALUE, Integer.MAX_VALUE}) {
            Check.illegal("value " + value, () -> x.put(0, 0, value, 0, 1));
        }
        for (int value : new int[] {-1, 8, 99, Integer.MIN_VALUE, Integer.MAX_VALUE}) {
            Check.illegal("value " + value + " in table 1", () -> x.put(1, 0, value, 0, 1));
        }
    }

    private static void putReferences() {
        Counted x = new Counted();
        Check.impossible("no key to refer to", () -> x.put(1, 0, 0, 0, 1));
        Check.illegal("out of range goes first", () -> x.put(1, 0, 0, 0, 61));
        x.put(0, 7, 50, 10, 20);
        Check.impossible("a day too early", () -> x.put(1, 3, 7, 9, 20));
        Check.impossible("a day too late", () -> x.put(1, 3, 7, 10, 21));
        Check.impossible("another key", () -> x.put(1, 3, 6, 10, 20));
        Check.due("nothing changed", x.runs(1, 3, 0), 0);
        Check.due("where it has a value", x.put(1, 3, 7, 10, 20), 10);
        Check.due("another value of the key", x.put(0, 7, 51, 5, 25), 20);
        x.put(0, 1, 1, 0, 60);
        Check.due("refers to another key", x.put(1, 3, 1, 12, 30), 18);
        Check.due("value of the last key", x.put(1, 7, 7, 5, 6), 1);
        x.pass(1);
        x.erase(1, 7, 0, 60);
        x.erase(1, 3, 0, 60);
        x.erase(0, 7, 0, 60);
        Check.impossible("known once, not today", () -> x.put(1, 7, 7, 5, 6));
        Check.due("as of day 0", x.joined(7, 5, 0), 51);
    }

    private static void erase() {
        Check.topic("3 erase");
        Counted x = two();
        Check.due("partly", x.erase(0, 2, 15, 30), 5);
        Check.due("first day", x.value(0, 2, 15, 3), -1);
        Check.due("day before", x.value(0, 2, 14, 3), 20);
        Check.due("known before", x.value(0, 2, 15, 2), 20);
        Check.due("once more", x.erase(0, 2, 15, 30), 0);
        Check.due("nothing there", x.erase(1, 2, 0, 60), 0);
        x.put(1, 0, 2, 3, 6);
        Check.impossible("first day of reference", () -> x.erase(0, 2, 0, 4));
        Check.impossible("last day of reference", () -> x.erase(0, 2, 5, 6));
        Check.impossible("all days", () -> x.erase(0, 2, 0, 60));
        Check.due("nothing changed", x.value(0, 2, 0, 3), 10);
        Check.due("before the reference", x.erase(0, 2, 0, 3), 3);
        Check.due("behind the reference", x.erase(0, 2, 6, 60), 9);
        Check.due("the reference", x.erase(1, 0, 0, 60), 3);
        Check.due("then the days it had", x.erase(0, 2, 0, 60), 3);
        Check.due("no key 0 in table 1 is meant", x.keys(0, 4, 3), 0);
        illegalTablesAndKeys("erase", (table, key) -> x.erase(table, key, 0, 1));
        illegalSpans("erase", (from, to) -> x.erase(0, 0, from, to));
        Counted y = two();
        y.put(1, 0, 2, 0, 20);
        Check.illegal("out of range goes first", () -> y.erase(0, 2, 0, 61));
    }

    private static void eraseAll() {
        Check.topic("4 eraseAll");
        Counted x = two();
        x.put(0, 3, 5, 0, 60);
        x.put(1, 0, 2, 5, 15);
        x.put(1, 1, 2, 12, 14);
        x.put(1, 2, 3, 0, 60);
        Check.due("both tables", x.eraseAll(2, 10, 30), 10 + 5 + 2);
        Check.due("the key", x.value(0, 2, 10, 3), -1);
        Check.due("the key before", x.value(0, 2, 9, 3), 10);
        Check.due("a reference", x.value(1, 0, 10, 3), -1);
        Check.due("the reference before", x.value(1, 0, 9, 3), 2);
        Check.due("another reference", x.runs(1, 1, 3), 0);
        Check.due("reference to another key", x.run(1, 2, 3, 0), 6003);
        Check.due("the other key", x.run(0, 3, 3, 0), 6005);
        Check.due("once more", x.eraseAll(2, 10, 30), 0);
        Check.due("known before", x.value(0, 2, 10, 2), 20);
        x.pass(1);
        Check.due("all days", x.eraseAll(3, 0, 60), 120);
        Check.due("on the day before", x.value(1, 2, 59, 3), 3);
        Counted y = new Counted();
        y.put(0, 4, 4, 0, 60);
        for (int key = 0; key < 8; key++) {
            y.put(1, key, 4, 0, 60);
        }
        Check.due("all that can be", y.eraseAll(4, 0, 60), 9 * 60);
        illegalKeys("eraseAll", key -> x.eraseAll(key, 0, 1));
        illegalSpans("eraseAll", (from, to) -> x.eraseAll(0, from, to));
    }

    private static void restore() {
        Check.topic("5 restore");
        Counted x = two();
        Check.due("nothing to change", x.restore(0, 2, 0), 0);
        Check.due("today itself", x.restore(0, 2, 3), 0);
        x.put(0, 2, 20, 5, 25);
        x.erase(0, 2, 0, 2);
        Check.due("changed, lost and won", x.restore(0, 2, 1), 5 + 5 + 2);
        Check.due("runs again", x.runs(0, 2, 3), 2);
        Check.due("first run again", x.run(0, 2, 3, 0), 1010);
        Check.due("second run again", x.run(0, 2, 3, 1), 102020);
        Check.due("another key", x.restore(0, 1, 0), 0);
        restoreReferences();
        illegalTablesAndKeys("restore", (table, key) -> x.restore(table, key, 0));
        illegalTablesAndKeys("restore, later", (table, key) -> x.restore(table, key, 59));
        illegalDays("restore", record -> x.restore(0, 0, record));
        Check.outOfBounds("tomorrow", () -> x.restore(0, 2, 4));
        Check.outOfBounds("day 59", () -> x.restore(1, 5, 59));
    }

    private static void restoreReferences() {
        Counted x = two();
        x.pass(1);
        x.put(0, 6, 60, 0, 60);
        x.pass(1);
        x.put(1, 5, 6, 10, 11);
        Check.impossible("a key that is referred to", () -> x.restore(0, 6, 3));
        Check.due("nothing changed", x.run(0, 6, 5, 0), 6060);
        x.pass(1);
        x.eraseAll(6, 10, 11);
        Check.impossible("a reference to nothing", () -> x.restore(1, 5, 5));
        Check.due("the key first", x.restore(0, 6, 5), 1);
        Check.due("then the reference", x.restore(1, 5, 5), 1);
        Check.due("what they were", x.joined(5, 10, 6), 60);
    }

    private static void pass() {
        Check.topic("6 pass");
        Counted x = new Counted();
        x.put(0, 0, 1, 0, 60);
        Check.due("1", x.pass(1), 1);
        Check.due("10", x.pass(10), 11);
        Check.impossible("to day 60", () -> x.pass(49));
        Check.impossible("59 days", () -> x.pass(59));
        Check.due("it has not passed", x.today(), 11);
        Check.due("to day 59", x.pass(48), 59);
        Check.impossible("a day more", () -> x.pass(1));
        for (int record = 0; record < 60; record++) {
            Check.due("known still", x.value(0, 0, 30, record), 1);
        }
        for (int days : new int[] {0, -1, 60, Integer.MIN_VALUE, Integer.MAX_VALUE}) {
            Check.illegal(days + " days", () -> x.pass(days));
            Check.illegal(days + " days at first", () -> new Counted().pass(days));
        }
        Check.due("59 at first", new Counted().pass(59), 59);
    }

    private static void today() {
        Check.topic("7 today");
        Counted x = new Counted();
        Check.due("at first", x.today(), 0);
        x.put(0, 0, 0, 0, 1);
        Check.due("behind a change", x.today(), 0);
        int day = 0;
        for (int days = 1; days < 10; days++) {
            x.pass(days);
            day += days;
            Check.due("behind pass", x.today(), day);
        }
        Check.impossible("too far", () -> x.pass(59));
        Check.due("behind a call that throws", x.today(), day);
        x.pass(59 - day);
        Check.due("at last", x.today(), 59);
    }

    private static void value() {
        Check.topic("8 value");
        Counted x = two();
        x.put(0, 2, 30, 5, 6);
        Check.due("known today", x.value(0, 2, 5, 3), 30);
        Check.due("known on a day that was passed over", x.value(0, 2, 5, 2), 10);
        Check.due("known at first", x.value(0, 2, 5, 0), 10);
        Check.due("none", x.value(0, 2, 20, 3), -1);
        Check.due("last day", x.value(0, 2, 59, 3), -1);
        x.put(1, 7, 2, 5, 6);
        Check.due("table 1", x.value(1, 7, 5, 3), 2);
        Check.due("table 1, before", x.value(1, 7, 5, 2), -1);
        x.pass(2);
        Check.due("goes on", x.value(0, 2, 5, 4), 30);
        x.put(0, 2, 31, 5, 6);
        x.put(0, 2, 32, 5, 6);
        Check.due("the end of the day counts", x.value(0, 2, 5, 5), 32);
        Counted y = two();
        illegalTablesAndKeys("value", (table, key) -> y.value(table, key, 0, 0));
        illegalTablesAndKeys("value, later", (table, key) -> y.value(table, key, 0, 59));
        illegalDays("value, valid", day -> y.value(0, 2, day, 0));
        illegalDays("value, valid, later", day -> y.value(0, 2, day, 59));
        records("value", record -> y.value(0, 2, 0, record));
    }

    private static void keys() {
        Check.topic("9 keys");
        Counted x = two();
        Check.due("one", x.keys(0, 0, 0), 4);
        Check.due("none", x.keys(0, 20, 3), 0);
        Check.due("table 1", x.keys(1, 0, 3), 0);
        for (int key = 0; key < 8; key++) {
            x.put(0, key, 0, 30, 31);
            x.put(1, key, key, 30, 31);
        }
        Check.due("all", x.keys(0, 30, 3), 255);
        Check.due("all of table 1", x.keys(1, 30, 3), 255);
        x.erase(1, 4, 30, 31);
        Check.due("all but one", x.keys(1, 30, 3), 255 - 16);
        Check.due("before", x.keys(1, 30, 2), 0);
        Check.due("day before", x.keys(0, 29, 3), 0);
        for (int table : WRONG_TABLES) {
            Check.illegal("table " + table, () -> x.keys(table, 0, 0));
            Check.illegal("table " + table + ", later", () -> x.keys(table, 0, 59));
        }
        illegalDays("keys, valid", day -> x.keys(0, day, 0));
        illegalDays("keys, valid, later", day -> x.keys(0, day, 59));
        records("keys", record -> x.keys(0, 0, record));
    }

    private static void joined() {
        Check.topic("10 joined");
        Counted x = two();
        x.put(0, 5, 0, 0, 60);
        x.put(1, 2, 2, 5, 15);
        x.put(1, 2, 5, 15, 20);
        Check.due("first value", x.joined(2, 9, 3), 10);
        Check.due("second value", x.joined(2, 10, 3), 20);
        Check.due("another key", x.joined(2, 15, 3), 0);
        Check.due("none", x.joined(2, 20, 3), -1);
        Check.due("none before", x.joined(2, 9, 2), -1);
        Check.due("not the same key of table 1", x.joined(5, 9, 3), -1);
        x.pass(1);
        x.put(0, 2, 44, 9, 10);
        Check.due("other today", x.joined(2, 9, 4), 44);
        Check.due("the same as it was", x.joined(2, 9, 3), 10);
        Counted y = two();
        illegalKeys("joined", key -> y.joined(key, 0, 0));
        illegalKeys("joined, later", key -> y.joined(key, 0, 59));
        illegalDays("joined, valid", day -> y.joined(0, day, 0));
        illegalDays("joined, valid, later", day -> y.joined(0, day, 59));
        records("joined", record -> y.joined(0, 0, record));
    }

    private static void runs() {
        Check.topic("11 runs");
        Counted x = two();
        Check.due("two", x.runs(0, 2, 3), 2);
        x.put(0, 2, 10, 10, 12);
        Check.due("longer, but two", x.runs(0, 2, 3), 2);
        x.put(0, 2, 10, 12, 20);
        Check.due("one", x.runs(0, 2, 3), 1);
        Check.due("two before", x.runs(0, 2, 2), 2);
        x.erase(0, 2, 5, 6);
        Check.due("two with a gap", x.runs(0, 2, 3), 2);
        x.put(0, 2, 10, 59, 60);
        Check.due("and the last day", x.runs(0, 2, 3), 3);
        for (int day = 0; day < 60; day += 2) {
            x.put(0, 4, 0, day, day + 1);
            x.put(0, 4, 99, day + 1, day + 2);
        }
        Check.due("as many as can be", x.runs(0, 4, 3), 60);
        Check.due("none", x.runs(1, 4, 3), 0);
        Check.due("none beside a key that has some", x.runs(0, 3, 3), 0);
        illegalTablesAndKeys("runs", (table, key) -> x.runs(table, key, 0));
        illegalTablesAndKeys("runs, later", (table, key) -> x.runs(table, key, 59));
        records("runs", record -> x.runs(0, 2, record));
    }

    private static void run() {
        Check.topic("12 run");
        Counted x = two();
        Check.due("first", x.run(0, 2, 3, 0), 1010);
        Check.due("second", x.run(0, 2, 3, 1), 102020);
        x.put(0, 2, 99, 58, 60);
        Check.due("last", x.run(0, 2, 3, 2), 586099);
        x.put(0, 2, 0, 57, 58);
        Check.due("value 0", x.run(0, 2, 3, 2), 575800);
        x.put(0, 2, 10, 8, 12);
        Check.due("longer", x.run(0, 2, 3, 0), 1210);
        Check.due("as of before", x.run(0, 2, 1, 0), 1010);
        x.put(1, 7, 2, 0, 12);
        Check.due("table 1", x.run(1, 7, 3, 0), 1202);
        for (int run : new int[] {-1, 4, 60, Integer.MIN_VALUE, Integer.MAX_VALUE}) {
            Check.outOfBounds("run " + run, () -> x.run(0, 2, 3, run));
        }
        Check.outOfBounds("a run of none", () -> x.run(0, 0, 3, 0));
        Check.outOfBounds("a run of today, before", () -> x.run(0, 2, 2, 2));
        illegalTablesAndKeys("run", (table, key) -> x.run(table, key, 0, 0));
        illegalTablesAndKeys("run, no run", (table, key) -> x.run(table, key, 59, -1));
        illegalDays("run, no run", record -> x.run(0, 2, record, -1));
        records("run", record -> x.run(0, 2, record, 0));
    }

    private static void joinedRuns() {
        Check.topic("13 joinedRuns");
        Counted x = two();
        x.put(0, 6, 10, 0, 60);
        Check.due("none", x.joinedRuns(3, 3), 0);
        x.put(1, 3, 2, 0, 20);
        Check.due("both values", x.joinedRuns(3, 3), 2);
        Check.due("none before", x.joinedRuns(3, 2), 0);
        x.put(1, 3, 6, 5, 10);
        Check.due("the same value of another key", x.joinedRuns(3, 3), 3);
        x.erase(1, 3, 7, 8);
        Check.due("a gap", x.joinedRuns(3, 3), 4);
        x.pass(1);
        x.put(0, 2, 21, 15, 16);
        Check.due("other in table 0", x.joinedRuns(3, 4), 6);
        Check.due("as it was", x.joinedRuns(3, 3), 4);
        x.put(0, 2, 22, 20, 30);
        Check.due("where it does not refer", x.joinedRuns(3, 4), 6);
        Counted y = new Counted();
        y.put(0, 0, 0, 0, 60);
        y.put(1, 0, 0, 0, 60);
        Check.due("all days", y.joinedRuns(0, 0), 1);
        y.put(0, 0, 1, 0, 1);
        y.put(0, 0, 1, 59, 60);
        Check.due("first and last day", y.joinedRuns(0, 0), 3);
        y.pass(1);
        y.put(0, 1, 1, 0, 60);
        y.put(1, 0, 1, 20, 30);
        Check.due("of two keys", y.joinedRuns(0, 1), 5);
        Check.due("of one key, as it was", y.joinedRuns(0, 0), 3);
        y.erase(1, 0, 0, 60);
        y.put(1, 1, 1, 0, 1);
        Check.due("none any more", y.joinedRuns(0, 1), 0);
        Check.due("before it was erased", y.joinedRuns(0, 0), 3);
        Counted z = two();
        illegalKeys("joinedRuns", key -> z.joinedRuns(key, 0));
        illegalKeys("joinedRuns, later", key -> z.joinedRuns(key, 59));
        records("joinedRuns", record -> z.joinedRuns(0, record));
    }

    /**
     * Key 2 of table 0 has these rows: 10 on days 0 to 9 up to record 2, 20 on days 10 to 19 from
     * record 0 on, and from record 3 on 10 on days 0 to 4, 11 on days 5 to 9, and 9 on day 30.
     */
    private static Counted withRows() {
        Counted x = two();
        x.put(0, 2, 9, 30, 31);
        x.put(0, 2, 11, 5, 10);
        return x;
    }

    private static void rows() {
        Check.topic("14 rows");
        Counted x = withRows();
        Check.due("five", x.rows(0, 2), 5);
        Check.due("none", x.rows(0, 1), 0);
        Check.due("none in table 1", x.rows(1, 2), 0);
        x.put(0, 2, 10, 5, 10);
        x.erase(0, 2, 30, 31);
        Check.due("again as they were, on the same day", x.rows(0, 2), 2);
        x.pass(5);
        Check.due("when days pass", x.rows(0, 2), 2);
        x.erase(0, 2, 19, 20);
        Check.due("a shorter run", x.rows(0, 2), 3);
        x.pass(1);
        x.put(0, 2, 20, 19, 20);
        Check.due("a run comes back", x.rows(0, 2), 4);
        x.pass(1);
        x.put(0, 2, 20, 9, 10);
        Check.due("an earlier start", x.rows(0, 2), 6);
        x.put(0, 2, 21, 9, 20);
        Check.due("another value", x.rows(0, 2), 6);
        Counted y = new Counted();
        y.put(0, 3, 1, 0, 1);
        Check.due("none beside a key that has one", y.rows(0, 2), 0);
        y.put(0, 2, 1, 0, 60);
        y.pass(1);
        Check.due("the same on day 1", y.rows(0, 2), 1);
        y.put(0, 2, 2, 0, 60);
        Check.due("another on day 1", y.rows(0, 2), 2);
        y.put(0, 2, 1, 0, 60);
        Check.due("again the same on day 1", y.rows(0, 2), 1);
        illegalTablesAndKeys("rows", (table, key) -> x.rows(table, key));
    }

    private static void rowRun() {
        Check.topic("15 rowRun");
        Counted x = withRows();
        int[] want = {1010, 102020, 510, 51011, 303109};
        for (int row = 0; row < 5; row++) {
            Check.due("row " + row, x.rowRun(0, 2, row), want[row]);
        }
        x.pass(1);
        x.put(0, 2, 99, 0, 60);
        Check.due("a row that has ended", x.rowRun(0, 2, 3), 51011);
        Check.due("a new one", x.rowRun(0, 2, 5), 6099);
        noRows("rowRun", 6, x, row -> x.rowRun(0, 2, row));
        illegalTablesAndKeys("rowRun", (table, key) -> x.rowRun(table, key, 0));
        illegalTablesAndKeys("rowRun, no row", (table, key) -> x.rowRun(table, key, -1));
    }

    private static void noRows(String what, int rows, Counted x, OfOne call) {
        Check.due("rows", x.rows(0, 2), rows);
        for (int row : new int[] {-1, rows, 3600, Integer.MIN_VALUE, Integer.MAX_VALUE}) {
            Check.outOfBounds(what + " of row " + row, () -> call.answer(row));
        }
    }

    private static void rowFrom() {
        Check.topic("16 rowFrom");
        Counted x = withRows();
        int[] want = {0, 0, 3, 3, 3};
        for (int row = 0; row < 5; row++) {
            Check.due("row " + row, x.rowFrom(0, 2, row), want[row]);
        }
        x.pass(56);
        x.erase(0, 2, 0, 1);
        Check.due("from the last day", x.rowFrom(0, 2, 5), 59);
        noRows("rowFrom", 6, x, row -> x.rowFrom(0, 2, row));
        Check.outOfBounds("a key without rows", () -> x.rowFrom(1, 0, 0));
        illegalTablesAndKeys("rowFrom", (table, key) -> x.rowFrom(table, key, 0));
        illegalTablesAndKeys("rowFrom, no row", (table, key) -> x.rowFrom(table, key, -1));
    }

    private static void rowTo() {
        Check.topic("17 rowTo");
        Counted x = withRows();
        int[] want = {3, -1, -1, -1, -1};
        for (int row = 0; row < 5; row++) {
            Check.due("row " + row, x.rowTo(0, 2, row), want[row]);
        }
        x.pass(5);
        x.put(0, 2, 10, 0, 10);
        Check.due("a row that has ended before", x.rowTo(0, 2, 0), 3);
        Check.due("one that ends today", x.rowTo(0, 2, 2), 8);
        Check.due("one that goes on", x.rowTo(0, 2, 1), -1);
        Check.due("the run is back in a row of its own", x.rowTo(0, 2, 5), -1);
        x.pass(51);
        Check.due("one that has day 59", x.rowTo(0, 2, 5), -1);
        x.eraseAll(2, 0, 60);
        Check.due("one that ends on day 59", x.rowTo(0, 2, 5), 59);
        noRows("rowTo", 6, x, row -> x.rowTo(0, 2, row));
        Check.outOfBounds("a key without rows", () -> x.rowTo(1, 0, 0));
        Counted y = new Counted();
        for (int day = 0; day < 60; day++) {
            y.put(0, 0, day % 2, 0, 60);
            Check.due("a row of each day, today", y.rowTo(0, 0, day), -1);
            Check.due("the row of the day before", day == 0 ? 0 : y.rowTo(0, 0, day - 1), day);
            if (day < 59) {
                y.pass(1);
            }
        }
        illegalTablesAndKeys("rowTo", (table, key) -> x.rowTo(table, key, 0));
        illegalTablesAndKeys("rowTo, no row", (table, key) -> x.rowTo(table, key, -1));
    }

    private static void corrections() {
        Check.topic("18 corrections");
        Counted x = two();
        x.put(0, 2, 11, 0, 5);
        x.pass(2);
        x.erase(0, 2, 0, 3);
        x.pass(1);
        x.put(0, 2, 12, 0, 1);
        x.put(0, 2, 13, 0, 1);
        x.pass(1);
        x.put(0, 2, 14, 0, 1);
        x.put(0, 2, 13, 0, 1);
        Check.due("all", x.corrections(0, 2, 0, 0, 7), 3);
        Check.due("a value that was there at first", x.corrections(0, 2, 10, 0, 7), 0);
        Check.due("from is not looked at", x.corrections(0, 2, 0, 3, 7), 2);
        Check.due("to is looked at", x.corrections(0, 2, 0, 2, 3), 1);
        Check.due("up to before", x.corrections(0, 2, 0, 0, 2), 0);
        Check.due("lost alone", x.corrections(0, 2, 1, 3, 7), 1);
        Check.due("no days", x.corrections(0, 2, 0, 3, 3), 0);
        Check.due("another key", x.corrections(0, 3, 0, 0, 7), 0);
        Check.due("another day", x.corrections(0, 2, 4, 0, 7), 1);
        Check.due("table 1", x.corrections(1, 2, 0, 0, 7), 0);
        Counted y = two();
        illegalTablesAndKeys("corrections", (table, key) -> y.corrections(table, key, 0, 0, 0));
        illegalTablesAndKeys("corrections, later",
                (table, key) -> y.corrections(table, key, 0, 0, 9));
        illegalDays("corrections, valid", day -> y.corrections(0, 2, day, 0, 59));
        illegalDays("corrections, from", day -> y.corrections(0, 2, 0, day, 59));
        illegalDays("corrections, to", day -> y.corrections(0, 2, 0, 0, day));
        Check.illegal("to less than from", () -> y.corrections(0, 2, 0, 2, 1));
        Check.illegal("to less than from, both later", () -> y.corrections(0, 2, 0, 9, 8));
        Check.outOfBounds("to is tomorrow", () -> y.corrections(0, 2, 0, 0, 4));
        Check.outOfBounds("both later", () -> y.corrections(0, 2, 0, 59, 59));
        Check.due("to is today", y.corrections(0, 2, 0, 0, 3), 0);
    }

    private static void longest() {
        Check.topic("19 longest");
        Counted x = two();
        Check.due("the same", x.longest(0, 2, 3), 10);
        Check.due("none", x.longest(1, 2, 3), 0);
        x.put(0, 2, 10, 10, 14);
        Check.due("first", x.longest(0, 2, 3), 14);
        x.put(0, 2, 0, 45, 60);
        Check.due("last", x.longest(0, 2, 3), 15);
        Check.due("as of before", x.longest(0, 2, 2), 10);
        x.put(0, 2, 5, 0, 60);
        Check.due("all days", x.longest(0, 2, 3), 60);
        x.put(0, 1, 5, 59, 60);
        Check.due("one day", x.longest(0, 1, 3), 1);
        illegalTablesAndKeys("longest", (table, key) -> x.longest(table, key, 0));
        illegalTablesAndKeys("longest, later", (table, key) -> x.longest(table, key, 59));
        records("longest", record -> x.longest(0, 2, record));
    }

    private static void average() {
        Check.topic("20 average");
        Counted x = two();
        Check.due("of two values", x.average(2, 3), 15);
        x.put(0, 2, 11, 0, 1);
        Check.due("as floats", x.average(2, 3), (float) 301 / (float) 20);
        Check.due("as of before", x.average(2, 2), 15);
        x.put(0, 3, 0, 5, 7);
        Check.due("of zeros", x.average(3, 3), 0);
        x.put(0, 3, 1, 7, 8);
        Check.due("a third", x.average(3, 3), 1f / 3f);
        x.put(0, 4, 99, 0, 60);
        Check.due("beside another key", x.average(3, 3), 1f / 3f);
        Check.due("of the greatest", x.average(4, 3), 99);
        x.put(1, 5, 4, 0, 60);
        Check.impossible("of table 1 is not asked", () -> x.average(5, 3));
        Check.impossible("none then", () -> x.average(3, 2));
        Check.illegal("out of range goes first", () -> x.average(5, 60));
        Check.outOfBounds("later goes first", () -> x.average(5, 4));
        illegalKeys("average", key -> x.average(key, 0));
        illegalKeys("average, later", key -> x.average(key, 59));
        records("average", record -> x.average(2, record));
        Check.impossible("a change that throws", () -> x.erase(0, 4, 0, 60));
        Check.due("changes nothing", x.average(4, 3), 99);
    }
}
