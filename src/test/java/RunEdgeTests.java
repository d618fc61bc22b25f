import java.io.IOException;
import java.util.function.IntUnaryOperator;
import java.util.function.Supplier;

/** Promises 11 to 17, sentence by sentence: no run and no row, one, the last one, one too many. */
public final class RunEdgeTests {
    private static final String TABLE = "- `table`: 0 or 1";
    private static final String KEY = "- `key`: 0 to 7";
    private static final String RECORD = "- `record`: day of record";
    private static final String ROW = "- `row`: 0 for the first one";
    private static final String NUMBER = "Returns the number.";
    private static final String ILLEGAL = "Throws `IllegalArgumentException` if ";
    private static final String LATER =
            "Throws `IndexOutOfBoundsException` if record is later than today";
    private static final String NO_ROW =
            "Throws `IndexOutOfBoundsException` if there is no such row";
    private static final int[] FAR = {Integer.MIN_VALUE, Integer.MAX_VALUE, -1, 60};

    /** A question about a row. */
    private interface OfRow {
        int on(Counted x, int table, int key, int row);
    }

    public static void main(String[] args) throws IOException {
        Sentences document = new Sentences(args[1]);
        runs(document);
        run(document);
        joinedRuns(document);
        rows(document);
        rowRun(document);
        rowFrom(document);
        rowTo(document);
        Check.end("RunEdgeTests");
    }

    // ---- 11 runs

    private static void runs(Sentences document) {
        document.section("Promise 11: runs");
        document.test("Returns the number of runs of a key on a day of record.",
                RunEdgeTests::runsOfKey);
        document.test(TABLE, () -> {
            Counted x = Starts.some();
            Check.due("table 0", x.runs(0, 2, 3), 2);
            Check.due("table 1", x.runs(1, 2, 3), 0);
            Check.due("another key of table 0", x.runs(0, 4, 3), 0);
            Check.due("another key of table 1", x.runs(1, 4, 3), 1);
            Refused.outside("table", 0, 1, Starts::full, (y, table) -> y.runs(table, 0, 2));
        });
        document.test(KEY, () -> {
            Counted x = Starts.ends();
            Check.due("the first key", x.runs(0, 0, 2), 1);
            Check.due("the last key", x.runs(0, 7, 2), 4);
            Check.due("the first key of table 1", x.runs(1, 0, 2), 2);
            Check.due("the last key of table 1", x.runs(1, 7, 2), 3);
            Check.due("the keys beside them", x.runs(0, 1, 2) + x.runs(0, 6, 2), 0);
            Check.due("and in table 1", x.runs(1, 1, 2) + x.runs(1, 6, 2), 0);
            Refused.outside("key", 0, 7, Starts::full, (y, key) -> y.runs(0, key, 2));
            Refused.outside("key of 1", 0, 7, Starts::full, (y, key) -> y.runs(1, key, 0));
        });
        document.test(RECORD, () -> {
            Counted x = new Counted();
            for (int record = 0; record < 60; record++) {
                x.put(0, 3, record % 2, record, 60);
                Check.due("today " + record, x.runs(0, 3, record), record + 1);
                if (record < 59) {
                    x.pass(1);
                }
            }
            for (int record = 0; record < 60; record++) {
                Check.due("day " + record + " at last", x.runs(0, 3, record), record + 1);
            }
            Refused.recordsOfFull("runs", (y, record) -> y.runs(1, 7, record));
        });
        document.test(NUMBER, () -> {
            Check.due("none in empty tables", Starts.empty().runs(0, 0, 0), 0);
            Check.due("none in an empty table 1", Starts.empty().runs(1, 7, 0), 0);
            Check.due("one in full tables", Starts.full().runs(1, 7, 2), 1);
            Check.due("as many as can be", Starts.sixtyRuns().runs(0, 0, 0), 60);
            Counted x = Starts.sixtyRuns();
            x.erase(0, 0, 59, 60);
            Check.due("one less", x.runs(0, 0, 0), 59);
            x.erase(0, 0, 0, 1);
            Check.due("two less", x.runs(0, 0, 0), 58);
        });
        document.test(ILLEGAL + "table, key or record is out of range", () -> {
            for (int far : FAR) {
                Refused.illegal("all are " + far, Starts::full, x -> x.runs(far, far, far));
                Refused.illegal("record is " + far, Starts::empty, x -> x.runs(0, 0, far));
            }
            Refused.illegal("the table, and later", Starts::full, x -> x.runs(2, 0, 3));
            Refused.illegal("the table below 0, and later", Starts::full, x -> x.runs(-1, 0, 59));
            Refused.illegal("the key, and later", Starts::full, x -> x.runs(0, 8, 3));
            Refused.illegal("the key below 0, and later", Starts::full, x -> x.runs(1, -1, 59));
        });
        document.test(LATER, () -> Refused.later("runs", (x, record) -> x.runs(0, 0, record)));
        document.allTested();
    }

    private static void runsOfKey() {
        Counted x = Starts.some();
        Check.due("two that touch", x.runs(0, 2, 3), 2);
        x.put(0, 2, 10, 10, 20);
        Check.due("one when their values are the same", x.runs(0, 2, 3), 1);
        Check.due("two as known before", x.runs(0, 2, 2), 2);
        x.erase(0, 2, 15, 16);
        Check.due("two with a gap of a day", x.runs(0, 2, 3), 2);
        x.put(0, 2, 0, 59, 60);
        Check.due("the last day, with 0", x.runs(0, 2, 3), 3);
        x.erase(0, 2, 0, 1);
        Check.due("without the first day", x.runs(0, 2, 3), 3);
        x.put(0, 2, 99, 0, 1);
        Check.due("the first day, with 99", x.runs(0, 2, 3), 4);
        x.put(0, 0, 1, 59, 60);
        x.put(0, 1, 1, 0, 1);
        Check.due("a run ends with its key", x.runs(0, 0, 3) + x.runs(0, 1, 3), 2);
    }

    // ---- 12 run

    private static void run(Sentences document) {
        document.section("Promise 12: run");
        document.test("Returns a run of a key on a day of record.", RunEdgeTests::runOfKey);
        document.test(TABLE, () -> {
            Counted x = Starts.full();
            Check.due("table 0", x.run(0, 2, 2, 0), 6092);
            Check.due("table 1", x.run(1, 2, 2, 0), 6005);
            Refused.outside("table", 0, 1, Starts::full, (y, table) -> y.run(table, 2, 2, 0));
        });
        document.test(KEY, () -> {
            Counted x = Starts.full();
            for (int key = 0; key < 8; key++) {
                Check.due("key " + key, x.run(0, key, 2, 0), 6090 + key);
                Check.due("key " + key + " of table 1", x.run(1, key, 2, 0), 6007 - key);
            }
            Refused.outside("key", 0, 7, Starts::full, (y, key) -> y.run(0, key, 2, 0));
            Refused.outside("key of 1", 0, 7, Starts::full, (y, key) -> y.run(1, key, 0, 0));
        });
        document.test(RECORD, () -> {
            Counted x = new Counted();
            for (int record = 0; record < 60; record++) {
                x.put(0, 3, record, record, 60);
                Check.due("today " + record, x.run(0, 3, record, record), 10001 * record + 6000);
                if (record < 59) {
                    x.pass(1);
                }
            }
            for (int day = 0; day < 60; day++) {
                Check.due("day " + day + " at last", x.run(0, 3, day, day), 10001 * day + 6000);
            }
            Refused.recordsOfFull("run", (y, record) -> y.run(1, 7, record, 0));
        });
        document.test("- `run`: 0 for the first one by days", RunEdgeTests::runByDays);
        document.test("Returns 10000 * first day + 100 * day behind the last one + value.", () -> {
            Counted x = Starts.some();
            x.put(0, 0, 0, 0, 1);
            Check.due("the least number", x.run(0, 0, 3, 0), 100);
            x.put(0, 0, 99, 59, 60);
            Check.due("the greatest number", x.run(0, 0, 3, 1), 596099);
            x.put(0, 0, 0, 0, 60);
            Check.due("all days, least value", x.run(0, 0, 3, 0), 6000);
            x.put(0, 0, 99, 0, 60);
            Check.due("all days, greatest value", x.run(0, 0, 3, 0), 6099);
            x.put(0, 0, 7, 1, 59);
            Check.due("all days but the first and the last", x.run(0, 0, 3, 1), 15907);
            Check.due("of table 1", x.run(1, 4, 3, 0), 51502);
        });
        document.test(ILLEGAL + "table, key or record is out of range", () -> {
            for (int far : FAR) {
                Refused.illegal("all are " + far, Starts::full, x -> x.run(far, far, far, far));
                Refused.illegal("record is " + far, Starts::empty, x -> x.run(0, 0, far, 0));
            }
            Refused.illegal("the table, and later", Starts::full, x -> x.run(2, 0, 3, 0));
            Refused.illegal("the table, and no run", Starts::full, x -> x.run(-1, 0, 2, 1));
            Refused.illegal("the key, and later", Starts::full, x -> x.run(0, 8, 59, 0));
            Refused.illegal("the key, and no run", Starts::full, x -> x.run(1, -1, 2, -1));
            Refused.illegal("record, and no run", Starts::full, x -> x.run(0, 0, 60, 1));
            Refused.illegal("record below 0, and no run", Starts::full, x -> x.run(0, 0, -1, -1));
        });
        document.test("Throws `IndexOutOfBoundsException` if record is later than today, or there "
                + "is no such run", RunEdgeTests::noSuchRun);
        document.allTested();
    }

    private static void runOfKey() {
        Counted x = Starts.some();
        Check.due("first", x.run(0, 2, 3, 0), 1010);
        Check.due("second", x.run(0, 2, 3, 1), 102020);
        x.put(0, 2, 10, 10, 11);
        Check.due("first, a day longer", x.run(0, 2, 3, 0), 1110);
        Check.due("second, a day shorter", x.run(0, 2, 3, 1), 112020);
        Check.due("as known before", x.run(0, 2, 2, 0), 1010);
        x.put(0, 2, 10, 11, 20);
        Check.due("as long as possible", x.run(0, 2, 3, 0), 2010);
        x.put(0, 2, 10, 20, 60);
        Check.due("the day behind is 60", x.run(0, 2, 3, 0), 6010);
        x.erase(0, 2, 30, 31);
        Check.due("up to a gap", x.run(0, 2, 3, 0), 3010);
        Check.due("behind a gap", x.run(0, 2, 3, 1), 316010);
    }

    private static void runByDays() {
        Counted x = Starts.sixtyRuns();
        for (int run = 0; run < 60; run++) {
            int value = run % 2 == 0 ? 99 : 0;
            Check.due("run " + run, x.run(0, 0, 0, run), 10100 * run + 100 + value);
        }
        Counted y = new Counted();
        y.put(0, 5, 1, 40, 50);
        y.put(0, 5, 2, 0, 10);
        y.put(0, 5, 3, 20, 30);
        Check.due("the first by days, not by calls", y.run(0, 5, 0, 0), 1002);
        Check.due("the second", y.run(0, 5, 0, 1), 203003);
        Check.due("the last", y.run(0, 5, 0, 2), 405001);
        for (int none : new int[] {-1, 60, 61, Integer.MIN_VALUE, Integer.MAX_VALUE}) {
            Refused.outOfBounds("run " + none, Starts::full, z -> z.run(0, 0, 2, none));
            Counted z = Starts.sixtyRuns();
            Check.outOfBounds("run " + none + " of 60", () -> z.run(0, 0, 0, none));
        }
    }

    private static void noSuchRun() {
        Refused.later("run", (x, record) -> x.run(0, 0, record, 0));
        Refused.outOfBounds("the first of none", Starts::empty, x -> x.run(0, 0, 0, 0));
        Refused.outOfBounds("the first of none in table 1", Starts::some, x -> x.run(1, 2, 3, 0));
        Refused.outOfBounds("the second of one", Starts::full, x -> x.run(1, 7, 2, 1));
        Refused.outOfBounds("the third of two", Starts::some, x -> x.run(0, 2, 3, 2));
        Refused.outOfBounds("one before the first", Starts::some, x -> x.run(0, 2, 3, -1));
        Refused.outOfBounds("before it was put", Starts::some, x -> x.run(1, 4, 2, 0));
        Refused.outOfBounds("no run, and later", Starts::some, x -> x.run(1, 4, 4, -1));
        Supplier<Counted> gone = Starts.then(Starts::full, x -> x.eraseAll(0, 0, 60));
        Refused.outOfBounds("gone", gone, x -> x.run(0, 0, 2, 0));
        Refused.outOfBounds("gone in table 1", gone, x -> x.run(1, 7, 2, 0));
        Check.due("still there the day before", gone.get().run(1, 7, 1, 0), 6000);
    }

    // ---- 13 joinedRuns

    private static void joinedRuns(Sentences document) {
        document.section("Promise 13: joinedRuns");
        document.test("Returns the number of runs that a key of table 1 has joined with table 0: "
                + "spans of neighbouring days of validity, as long as possible, on which it has "
                + "the same value, and the key to which it refers has the same value, too.",
                RunEdgeTests::joinedRunsOfKey);
        document.test("- `key`: 0 to 7, of table 1", () -> {
            Counted x = Starts.ends();
            Check.due("the first key", x.joinedRuns(0, 2), 5);
            Check.due("the last key", x.joinedRuns(7, 2), 3);
            Check.due("the keys beside them", x.joinedRuns(1, 2) + x.joinedRuns(6, 2), 0);
            Check.due("a key of table 0 alone", Starts.some().joinedRuns(2, 3), 0);
            Check.due("the key of table 1", Starts.some().joinedRuns(4, 3), 2);
            Refused.outside("key", 0, 7, Starts::full, (y, key) -> y.joinedRuns(key, 2));
            Refused.outside("key of none", 0, 7, Starts::empty, (y, key) -> y.joinedRuns(key, 0));
        });
        document.test(RECORD, () -> {
            Counted x = new Counted();
            x.put(0, 3, 9, 0, 60);
            x.put(1, 5, 3, 0, 60);
            for (int record = 0; record < 60; record++) {
                x.put(0, 3, record % 2, record, 60);
                Check.due("today " + record, x.joinedRuns(5, record), record + 1);
                if (record < 59) {
                    x.pass(1);
                }
            }
            for (int record = 0; record < 60; record++) {
                Check.due("day " + record + " at last", x.joinedRuns(5, record), record + 1);
            }
            Refused.recordsOfFull("joinedRuns", (y, record) -> y.joinedRuns(7, record));
        });
        document.test(NUMBER, RunEdgeTests::joinedRunsNumber);
        document.test(ILLEGAL + "key or record is out of range", () -> {
            for (int far : FAR) {
                Refused.illegal("both are " + far, Starts::full, x -> x.joinedRuns(far, far));
                Refused.illegal("record is " + far, Starts::empty, x -> x.joinedRuns(0, far));
            }
            Refused.illegal("the key, and later", Starts::full, x -> x.joinedRuns(8, 3));
            Refused.illegal("the key below 0, and later", Starts::full, x -> x.joinedRuns(-1, 59));
        });
        document.test(LATER,
                () -> Refused.later("joinedRuns", (x, record) -> x.joinedRuns(0, record)));
        document.allTested();
    }

    private static void joinedRunsOfKey() {
        Counted x = Starts.some();
        Check.due("one run of its own, two of the other key", x.joinedRuns(4, 3), 2);
        x.put(0, 2, 10, 10, 20);
        Check.due("one when both stay the same", x.joinedRuns(4, 3), 1);
        x.put(0, 6, 10, 0, 60);
        x.put(1, 4, 6, 8, 12);
        Check.due("another key with the same value", x.joinedRuns(4, 3), 3);
        x.erase(1, 4, 10, 11);
        Check.due("a gap", x.joinedRuns(4, 3), 4);
        x.put(0, 2, 0, 5, 6);
        Check.due("another value on its first day", x.joinedRuns(4, 3), 5);
        x.put(0, 2, 0, 14, 15);
        Check.due("another value on its last day", x.joinedRuns(4, 3), 6);
        x.put(0, 2, 1, 4, 5);
        x.put(0, 2, 1, 15, 16);
        Check.due("on the days before and behind it", x.joinedRuns(4, 3), 6);
        Check.due("none as known before", x.joinedRuns(4, 2), 0);
        x.pass(1);
        x.put(0, 2, 10, 0, 60);
        x.put(1, 4, 2, 0, 60);
        Check.due("one of all days", x.joinedRuns(4, 4), 1);
        Check.due("six as known before", x.joinedRuns(4, 3), 6);
        x.erase(1, 4, 0, 60);
        Check.due("none today", x.joinedRuns(4, 4), 0);
        Check.due("still six as known before", x.joinedRuns(4, 3), 6);
        Counted y = Starts.some();
        y.put(0, 2, 10, 0, 60);
        y.put(0, 4, 10, 0, 60);
        y.put(1, 4, 2, 0, 30);
        y.put(1, 4, 4, 30, 60);
        Check.due("two keys, one value", y.joinedRuns(4, 3), 2);
    }

    private static void joinedRunsNumber() {
        Check.due("none in empty tables", Starts.empty().joinedRuns(7, 0), 0);
        Check.due("one in full tables", Starts.full().joinedRuns(7, 2), 1);
        Counted x = Starts.sixtyRuns();
        Check.due("none of table 0 alone", x.joinedRuns(0, 0), 0);
        x.put(1, 7, 0, 0, 60);
        Check.due("as many as can be", x.joinedRuns(7, 0), 60);
        x.erase(1, 7, 0, 1);
        Check.due("without the first day", x.joinedRuns(7, 0), 59);
        x.erase(1, 7, 59, 60);
        Check.due("without the last day", x.joinedRuns(7, 0), 58);
        x.erase(1, 7, 0, 60);
        x.put(1, 7, 0, 0, 1);
        Check.due("the first day alone", x.joinedRuns(7, 0), 1);
        x.put(1, 7, 0, 59, 60);
        Check.due("and the last", x.joinedRuns(7, 0), 2);
        x.eraseAll(0, 0, 60);
        Check.due("none any more", x.joinedRuns(7, 0), 0);
    }

    // ---- 14 rows

    private static void rows(Sentences document) {
        document.section("Promise 14: rows");
        document.test("Returns the number of rows of a key.", RunEdgeTests::rowsOfKey);
        document.test(TABLE, () -> {
            Counted x = Starts.some();
            Check.due("table 0", x.rows(0, 2), 2);
            Check.due("table 1", x.rows(1, 2), 0);
            Check.due("another key of table 0", x.rows(0, 4), 0);
            Check.due("another key of table 1", x.rows(1, 4), 1);
            Refused.outside("table", 0, 1, Starts::full, (y, table) -> y.rows(table, 0));
        });
        document.test(KEY, () -> {
            Counted x = Starts.ends();
            Check.due("the first key", x.rows(0, 0), 1);
            Check.due("the last key", x.rows(0, 7), 5);
            Check.due("the first key of table 1", x.rows(1, 0), 3);
            Check.due("the last key of table 1", x.rows(1, 7), 4);
            Check.due("the keys beside them", x.rows(0, 1) + x.rows(0, 6), 0);
            Check.due("and in table 1", x.rows(1, 1) + x.rows(1, 6), 0);
            Refused.outside("key", 0, 7, Starts::full, (y, key) -> y.rows(0, key));
            Refused.outside("key of 1", 0, 7, Starts::full, (y, key) -> y.rows(1, key));
        });
        document.test(NUMBER, () -> {
            Check.due("none in empty tables", Starts.empty().rows(0, 0), 0);
            Check.due("none in an empty table 1", Starts.empty().rows(1, 7), 0);
            Check.due("one in full tables", Starts.full().rows(1, 7), 1);
            Check.due("as many as a day can bring", Starts.sixtyRuns().rows(0, 0), 60);
            Check.due("as many as can be", Starts.allRows().rows(0, 0), 3600);
            Check.due("beside as many as can be", Starts.allRows().rows(0, 1), 0);
        });
        document.test(ILLEGAL + "table or key is out of range", () -> {
            for (int far : FAR) {
                Refused.illegal("both are " + far, Starts::full, x -> x.rows(far, far));
                Refused.illegal("the table is " + far, Starts::empty, x -> x.rows(far, 0));
                Refused.illegal("the key is " + far, Starts::last, x -> x.rows(1, far));
            }
        });
        document.allTested();
    }

    private static void rowsOfKey() {
        Counted x = Starts.some();
        x.erase(1, 4, 0, 60);
        x.pass(1);
        Check.due("a day brings none", x.rows(0, 2), 2);
        x.put(0, 2, 10, 0, 10);
        Check.due("the same once more brings none", x.rows(0, 2), 2);
        x.put(0, 2, 11, 0, 1);
        Check.due("a day of a run brings two", x.rows(0, 2), 4);
        x.put(0, 2, 10, 0, 1);
        Check.due("undone on the same day", x.rows(0, 2), 2);
        x.erase(0, 2, 0, 60);
        Check.due("what is lost brings none", x.rows(0, 2), 2);
        x.restore(0, 2, 0);
        Check.due("lost and won on the same day", x.rows(0, 2), 2);
        x.put(0, 2, 10, 59, 60);
        Check.due("the last day of validity", x.rows(0, 2), 3);
        x.erase(0, 2, 59, 60);
        x.pass(1);
        x.erase(0, 2, 10, 60);
        x.pass(1);
        x.restore(0, 2, 0);
        Check.due("a run that comes back", x.rows(0, 2), 3);
        x.pass(53);
        x.put(0, 2, 10, 10, 20);
        Check.due("on the last day of record", x.rows(0, 2), 4);
    }

    // ---- 15 to 17: one row

    private static void tablesAndKeys(Sentences document, String what, OfRow call) {
        document.test(ILLEGAL + "table or key is out of range", () -> {
            for (int far : FAR) {
                Refused.illegal(what + " of " + far, Starts::full, x -> call.on(x, far, far, far));
                Refused.illegal(what + " of table " + far, Starts::full,
                        x -> call.on(x, far, 0, 0));
                Refused.illegal(what + " of key " + far, Starts::full, x -> call.on(x, 1, far, 0));
            }
            Refused.illegal("the table, and no row", Starts::empty, x -> call.on(x, 2, 0, 0));
            Refused.illegal("the table below 0, and row -1", Starts::full,
                    x -> call.on(x, -1, 0, -1));
            Refused.illegal("the key, and no row", Starts::full, x -> call.on(x, 0, 8, 1));
            Refused.illegal("the key below 0, and row -1", Starts::some,
                    x -> call.on(x, 1, -1, -1));
        });
    }

    private static void noSuchRow(Sentences document, String what, OfRow call) {
        document.test(NO_ROW, () -> {
            Refused.outOfBounds("the first of none", Starts::empty, x -> call.on(x, 0, 0, 0));
            Refused.outOfBounds("the first of none in 1", Starts::some, x -> call.on(x, 1, 2, 0));
            Refused.outOfBounds("the second of one", Starts::full, x -> call.on(x, 1, 7, 1));
            Refused.outOfBounds("the third of two", Starts::some, x -> call.on(x, 0, 2, 2));
            Refused.outOfBounds("at last", Starts::last, x -> call.on(x, 0, 2, 2));
            Refused.outOfBounds("before the first", Starts::full, x -> call.on(x, 0, 0, -1));
            for (int none : new int[] {Integer.MIN_VALUE, Integer.MAX_VALUE, -1, 3600}) {
                String told = what + " of row " + none;
                Refused.outOfBounds(told, Starts::full, x -> call.on(x, 0, 0, none));
                Counted x = Starts.allRows();
                Check.outOfBounds(told + " of 3600", () -> call.on(x, 0, 0, none));
            }
            Counted x = Starts.allRows();
            Check.answers(what + " of row 3599 of 3600", () -> call.on(x, 0, 0, 3599));
            Supplier<Counted> gone = Starts.then(Starts::some, y -> y.erase(1, 4, 0, 60));
            Refused.outOfBounds("put and lost on one day", gone, y -> call.on(y, 1, 4, 0));
        });
    }

    /** The first, the last and some rows between of each day of record, where there are 3600. */
    private static void askAllRows(String what, OfRow call, IntUnaryOperator due) {
        Counted x = Starts.allRows();
        for (int record = 0; record < 60; record++) {
            for (int day : new int[] {0, 1, 30, 58, 59}) {
                int row = record * 60 + day;
                Check.due(what + " " + row, call.on(x, 0, 0, row), due.applyAsInt(row));
            }
        }
    }

    // ---- 15 rowRun

    private static void rowRun(Sentences document) {
        document.section("Promise 15: rowRun");
        OfRow call = Counted::rowRun;
        document.test("Returns the run of a row.", () -> {
            Counted x = Starts.some();
            Check.due("the first row", x.rowRun(0, 2, 0), 1010);
            Check.due("the last row", x.rowRun(0, 2, 1), 102020);
            x.pass(1);
            x.erase(1, 4, 0, 60);
            x.put(0, 2, 10, 10, 60);
            Check.due("a row that has ended", x.rowRun(0, 2, 1), 102020);
            Check.due("a row of today", x.rowRun(0, 2, 2), 6010);
            x.pass(1);
            x.erase(0, 2, 0, 60);
            Check.due("a row of yesterday, with nothing today", x.rowRun(0, 2, 2), 6010);
        });
        document.test(TABLE, () -> {
            Counted x = Starts.full();
            Check.due("table 0", x.rowRun(0, 2, 0), 6092);
            Check.due("table 1", x.rowRun(1, 2, 0), 6005);
            Refused.outside("table", 0, 1, Starts::full, (y, table) -> y.rowRun(table, 2, 0));
        });
        document.test(KEY, () -> {
            Counted x = Starts.full();
            for (int key = 0; key < 8; key++) {
                Check.due("key " + key, x.rowRun(0, key, 0), 6090 + key);
                Check.due("key " + key + " of table 1", x.rowRun(1, key, 0), 6007 - key);
            }
            Refused.outside("key", 0, 7, Starts::full, (y, key) -> y.rowRun(0, key, 0));
            Refused.outside("key of 1", 0, 7, Starts::full, (y, key) -> y.rowRun(1, key, 0));
        });
        document.test(ROW, () -> askAllRows("row", call, row -> {
            int even = row % 2 == 0 ? 99 : 0;
            int odd = row % 2 == 0 ? 1 : 2;
            return row % 60 * 10100 + 100 + (row / 60 % 2 == 0 ? even : odd);
        }));
        document.test("Returns as for run().", () -> {
            Counted x = new Counted();
            x.put(0, 0, 0, 0, 1);
            x.put(0, 0, 99, 59, 60);
            x.put(0, 1, 99, 0, 60);
            x.put(1, 7, 1, 10, 20);
            Check.due("the least number", x.rowRun(0, 0, 0), 100);
            Check.due("the greatest number", x.rowRun(0, 0, 1), 596099);
            Check.due("all days", x.rowRun(0, 1, 0), 6099);
            Check.due("of table 1", x.rowRun(1, 7, 0), 102001);
            Check.due("as run()", x.rowRun(1, 7, 0), x.run(1, 7, 0, 0));
        });
        tablesAndKeys(document, "rowRun", call);
        noSuchRow(document, "rowRun", call);
        document.allTested();
    }

    // ---- 16 rowFrom

    private static void rowFrom(Sentences document) {
        document.section("Promise 16: rowFrom");
        OfRow call = Counted::rowFrom;
        document.test("Returns the first day of record of a row.", () -> {
            Counted x = Starts.some();
            Check.due("put on day 0", x.rowFrom(0, 2, 0), 0);
            Check.due("put on day 3", x.rowFrom(1, 4, 0), 3);
            x.pass(1);
            x.put(0, 2, 11, 0, 1);
            x.put(0, 2, 10, 0, 1);
            Check.due("undone on the same day", x.rowFrom(0, 2, 0), 0);
            x.put(0, 2, 10, 0, 11);
            Check.due("a longer run is another row", x.rowFrom(0, 2, 2), 4);
            Check.due("a shorter one, too", x.rowFrom(0, 2, 3), 4);
            Check.due("the row of the run that it was", x.rowFrom(0, 2, 0), 0);
            x.pass(1);
            x.restore(0, 2, 0);
            Check.due("a run that comes back", x.rowFrom(0, 2, 4), 5);
        });
        document.test(TABLE, () -> {
            Counted x = Starts.some();
            x.put(0, 4, 1, 0, 1);
            x.put(1, 2, 2, 0, 1);
            x.pass(1);
            Check.due("table 0", x.rowFrom(0, 2, 0), 0);
            Check.due("table 1", x.rowFrom(1, 2, 0), 3);
            Refused.outside("table", 0, 1, Starts::full, (y, table) -> y.rowFrom(table, 2, 0));
        });
        document.test(KEY, () -> {
            Counted x = Starts.ends();
            Check.due("the last row of the first key", x.rowFrom(0, 0, 0), 0);
            Check.due("the last row of the last key", x.rowFrom(0, 7, 4), 2);
            Check.due("the last row of the first key of table 1", x.rowFrom(1, 0, 2), 2);
            Check.due("a row of the last key of table 1", x.rowFrom(1, 7, 1), 0);
            Refused.outside("key", 0, 7, Starts::full, (y, key) -> y.rowFrom(0, key, 0));
            Refused.outside("key of 1", 0, 7, Starts::full, (y, key) -> y.rowFrom(1, key, 0));
        });
        document.test(ROW, () -> askAllRows("row", call, row -> row / 60));
        document.test("Returns the day.", () -> {
            Check.due("the first day of record", Starts.full().rowFrom(1, 7, 0), 0);
            Counted x = Starts.last();
            x.put(0, 0, 1, 0, 1);
            Check.due("the last day of record", x.rowFrom(0, 0, 0), 59);
            Counted y = Starts.empty();
            y.pass(30);
            y.put(0, 0, 1, 59, 60);
            y.pass(29);
            Check.due("a day between", y.rowFrom(0, 0, 0), 30);
        });
        tablesAndKeys(document, "rowFrom", call);
        noSuchRow(document, "rowFrom", call);
        document.allTested();
    }

    // ---- 17 rowTo

    private static void rowTo(Sentences document) {
        document.section("Promise 17: rowTo");
        OfRow call = Counted::rowTo;
        document.test("Returns the day of record behind the last one of a row.",
                RunEdgeTests::rowToOfKey);
        document.test(TABLE, () -> {
            Counted x = Starts.full();
            x.put(1, 2, 0, 0, 1);
            Check.due("table 0", x.rowTo(0, 2, 0), -1);
            Check.due("table 1", x.rowTo(1, 2, 0), 2);
            Refused.outside("table", 0, 1, Starts::full, (y, table) -> y.rowTo(table, 2, 0));
        });
        document.test(KEY, () -> {
            Counted x = Starts.ends();
            Check.due("the first key", x.rowTo(0, 0, 0), -1);
            Check.due("the last key", x.rowTo(0, 7, 2), 2);
            Check.due("the first key of table 1", x.rowTo(1, 0, 0), 2);
            Check.due("the last key of table 1", x.rowTo(1, 7, 1), -1);
            Refused.outside("key", 0, 7, Starts::full, (y, key) -> y.rowTo(0, key, 0));
            Refused.outside("key of 1", 0, 7, Starts::full, (y, key) -> y.rowTo(1, key, 0));
        });
        document.test(ROW, () -> askAllRows("row", call, row -> row < 3540 ? row / 60 + 1 : -1));
        document.test("Returns the day, -1 if the row has today.", RunEdgeTests::rowToDay);
        tablesAndKeys(document, "rowTo", call);
        noSuchRow(document, "rowTo", call);
        document.allTested();
    }

    private static void rowToOfKey() {
        Counted x = Starts.some();
        x.erase(1, 4, 0, 60);
        x.pass(1);
        x.put(0, 2, 11, 0, 1);
        Check.due("changed today", x.rowTo(0, 2, 0), 4);
        Check.due("another run of the key goes on", x.rowTo(0, 2, 1), -1);
        x.put(0, 2, 10, 0, 1);
        Check.due("undone on the same day", x.rowTo(0, 2, 0), -1);
        x.erase(0, 2, 10, 11);
        Check.due("the day behind it is lost", x.rowTo(0, 2, 0), -1);
        Check.due("its first day is lost", x.rowTo(0, 2, 1), 4);
        x.put(0, 2, 10, 10, 11);
        Check.due("a day longer", x.rowTo(0, 2, 0), 4);
        x.pass(10);
        Check.due("asked later", x.rowTo(0, 2, 0), 4);
        x.restore(0, 2, 0);
        Check.due("when its run has come back", x.rowTo(0, 2, 0), 4);
        Check.due("the row between", x.rowTo(0, 2, 2), 14);
        Check.due("the row of the run that came back", x.rowTo(0, 2, 4), -1);
        x.eraseAll(2, 0, 60);
        Check.due("a run that was lost on the day it came back", x.rows(0, 2), 4);
    }

    private static void rowToDay() {
        Counted x = Starts.full();
        Check.due("a row from the first day on", x.rowTo(1, 7, 0), -1);
        x.pass(57);
        Check.due("on the last day of record", x.rowTo(1, 7, 0), -1);
        x.erase(1, 7, 59, 60);
        Check.due("the last day itself", x.rowTo(1, 7, 0), 59);
        Check.due("a row that has the last day alone", x.rowTo(1, 7, 1), -1);
        Counted y = Starts.empty();
        y.put(0, 0, 1, 0, 60);
        Check.due("a row of today alone", y.rowTo(0, 0, 0), -1);
        y.pass(1);
        y.put(0, 0, 2, 0, 60);
        Check.due("a row of day 0 alone", y.rowTo(0, 0, 0), 1);
        y.pass(57);
        y.put(0, 0, 3, 0, 60);
        Check.due("a row up to day 57", y.rowTo(0, 0, 1), 58);
        y.pass(1);
        Check.due("a row of day 58 that has today", y.rowTo(0, 0, 2), -1);
        Check.due("the day asked later", y.rowTo(0, 0, 1), 58);
    }
}
