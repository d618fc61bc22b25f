import java.io.IOException;
import java.util.function.Supplier;

/** Promises 1 to 7, sentence by sentence: the first, the last, one too few and one too many. */
public final class ChangeEdgeTests {
    private static final String TABLE = "- `table`: 0 or 1";
    private static final String KEY = "- `key`: 0 to 7";
    private static final String FROM = "- `from`: the first day, 0 to 59";
    private static final String TO = "- `to`: the day behind the last one, from + 1 to 60";
    private static final String HOLD =
            "Throws `IllegalStateException` if references would not hold";
    private static final int LOW = Integer.MIN_VALUE;
    private static final int HIGH = Integer.MAX_VALUE;

    public static void main(String[] args) throws IOException {
        Sentences document = new Sentences(args[1]);
        newObject(document);
        put(document);
        erase(document);
        eraseAll(document);
        restore(document);
        pass(document);
        today(document);
        Check.end("ChangeEdgeTests");
    }

    // ---- 1 A new object

    private static void newObject(Sentences document) {
        document.section("Promise 1: A new object");
        document.test("Creates two empty tables; today is day 0.", () -> {
            newTablesAreEmpty();
            newDayIsZero();
            newObjectsAreApart();
        });
        document.allTested();
    }

    private static void newTablesAreEmpty() {
        Counted x = new Counted();
        for (int table = 0; table < 2; table++) {
            for (int key = 0; key < 8; key++) {
                Check.due("runs", x.runs(table, key, 0), 0);
                Check.due("rows", x.rows(table, key), 0);
                Check.due("longest", x.longest(table, key, 0), 0);
                Check.due("corrections", x.corrections(table, key, 59, 0, 0), 0);
                Check.due("value on the first day", x.value(table, key, 0, 0), -1);
                Check.due("value on the last day", x.value(table, key, 59, 0), -1);
                Check.due("days to erase", x.erase(table, key, 0, 60), 0);
                Check.due("days to restore", x.restore(table, key, 0), 0);
            }
            for (int day = 0; day < 60; day++) {
                Check.due("keys on day " + day, x.keys(table, day, 0), 0);
            }
        }
        for (int key = 0; key < 8; key++) {
            int asked = key;
            Check.due("joined", x.joined(key, 0, 0), -1);
            Check.due("joined runs", x.joinedRuns(key, 0), 0);
            Check.due("days to erase in both tables", x.eraseAll(key, 0, 60), 0);
            Refused.impossible("an average", Starts::empty, y -> y.average(asked, 0));
            Refused.impossible("a reference", Starts::empty, y -> y.put(1, asked, asked, 0, 1));
        }
        Refused.outOfBounds("a run", Starts::empty, y -> y.run(0, 0, 0, 0));
        Refused.outOfBounds("a row", Starts::empty, y -> y.rowRun(0, 0, 0));
        Refused.outOfBounds("a row's first day", Starts::empty, y -> y.rowFrom(1, 7, 0));
        Refused.outOfBounds("a row's end", Starts::empty, y -> y.rowTo(1, 0, 0));
    }

    private static void newDayIsZero() {
        Counted x = new Counted();
        Check.due("today", x.today(), 0);
        Check.due("a day later", x.pass(1), 1);
        Refused.outOfBounds("day 1 of record", Starts::empty, y -> y.value(0, 0, 0, 1));
    }

    private static void newObjectsAreApart() {
        Counted x = Starts.full();
        Counted y = new Counted();
        Check.due("today beside another object", y.today(), 0);
        Check.due("keys beside another object", y.keys(0, 0, 0), 0);
        y.put(0, 0, 5, 0, 60);
        Check.due("the first object's value", x.value(0, 0, 0, 2), 90);
    }

    // ---- 2 put

    private static void put(Sentences document) {
        document.section("Promise 2: put");
        document.test("Lets a key have a value on a span of days of validity, "
                + "whatever it had there.", ChangeEdgeTests::putWhateverItHad);
        document.test(TABLE, ChangeEdgeTests::putTable);
        document.test(KEY, ChangeEdgeTests::putKey);
        document.test("- `value`: 0 to 99 for table 0, 0 to 7 for table 1",
                ChangeEdgeTests::putValue);
        document.test(FROM, ChangeEdgeTests::putFrom);
        document.test(TO, ChangeEdgeTests::putTo);
        document.test("Returns on how many of these days its value changes.",
                ChangeEdgeTests::putAnswer);
        document.test("Throws `IllegalArgumentException` if table, key, value, from or to is "
                + "out of range", ChangeEdgeTests::putIllegal);
        document.test(HOLD, ChangeEdgeTests::putReferences);
        document.allTested();
    }

    private static void putWhateverItHad() {
        Counted x = Starts.some();
        Check.due("over none, 10, 20 and none", x.put(0, 2, 7, 0, 60), 60);
        Check.due("one run of all", x.run(0, 2, 3, 0), 6007);
        Check.due("and no other", x.runs(0, 2, 3), 1);
        Check.due("known before", x.run(0, 2, 2, 1), 102020);
        x = Starts.some();
        x.put(0, 2, 30, 9, 11);
        Check.due("the day before the span", x.value(0, 2, 8, 3), 10);
        Check.due("the span's first day", x.value(0, 2, 9, 3), 30);
        Check.due("the span's last day", x.value(0, 2, 10, 3), 30);
        Check.due("the day behind the span", x.value(0, 2, 11, 3), 20);
        x = Starts.full();
        x.put(0, 3, 1, 59, 60);
        Check.due("the last day of full tables", x.value(0, 3, 59, 2), 1);
        Check.due("the day before", x.value(0, 3, 58, 2), 93);
        Check.due("the next key", x.value(0, 4, 0, 2), 94);
        x.put(0, 4, 2, 0, 1);
        Check.due("the first day of full tables", x.value(0, 4, 0, 2), 2);
        Check.due("the day behind", x.value(0, 4, 1, 2), 94);
        Check.due("the key before", x.value(0, 3, 59, 2), 1);
        Check.due("the other table", x.run(1, 3, 2, 0), 6004);
        Check.due("a key is let refer to another", x.put(1, 3, 7, 0, 60), 60);
        Check.due("by its new value", x.joined(3, 59, 2), 97);
    }

    private static void putTable() {
        Counted x = Starts.some();
        x.put(0, 3, 2, 0, 20);
        Check.due("table 0 has it", x.value(0, 3, 0, 3), 2);
        Check.due("table 1 has not", x.value(1, 3, 0, 3), -1);
        x.put(1, 6, 2, 0, 20);
        Check.due("table 1 has it", x.value(1, 6, 0, 3), 2);
        Check.due("table 0 has not", x.value(0, 6, 0, 3), -1);
        Refused.outside("table", 0, 1, Starts::some, (y, table) -> y.put(table, 3, 2, 0, 20));
    }

    private static void putKey() {
        Counted x = Starts.some();
        x.put(0, 0, 1, 0, 60);
        x.put(0, 7, 2, 0, 60);
        x.put(1, 0, 7, 0, 60);
        x.put(1, 7, 0, 0, 60);
        Check.due("the first and the last key", x.keys(0, 59, 3), 129);
        Check.due("and of table 1", x.keys(1, 59, 3), 129);
        Check.due("the first one's", x.joined(0, 59, 3), 2);
        Check.due("the last one's", x.joined(7, 59, 3), 1);
        Refused.outside("key", 0, 7, Starts::some, (y, key) -> y.put(0, key, 2, 0, 20));
        Refused.outside("key of table 1", 0, 7, Starts::some, (y, key) -> y.put(1, key, 2, 0, 20));
    }

    private static void putValue() {
        Counted x = Starts.full();
        Check.due("0", x.put(0, 0, 0, 0, 1), 1);
        Check.due("0 it is", x.value(0, 0, 0, 2), 0);
        Check.due("99", x.put(0, 0, 99, 1, 2), 1);
        Check.due("99 it is", x.value(0, 0, 1, 2), 99);
        Check.due("8 in table 0", x.put(0, 0, 8, 2, 3), 1);
        Check.due("0 in table 1", x.put(1, 0, 0, 0, 1), 1);
        Check.due("0 in table 1 it is", x.value(1, 0, 0, 2), 0);
        Check.due("7 in table 1", x.put(1, 7, 7, 0, 1), 1);
        Check.due("7 in table 1 it is", x.value(1, 7, 0, 2), 7);
        Refused.outside("value", 0, 99, Starts::full, (y, value) -> y.put(0, 3, value, 0, 60));
        Refused.outside("reference", 0, 7, Starts::full, (y, value) -> y.put(1, 3, value, 0, 60));
        Refused.illegal("99 in table 1", Starts::full, y -> y.put(1, 3, 99, 0, 60));
    }

    private static void putFrom() {
        Counted x = Starts.some();
        Check.due("from the first day", x.put(0, 0, 1, 0, 1), 1);
        Check.due("the first day", x.run(0, 0, 3, 0), 101);
        Check.due("from the last day", x.put(0, 0, 1, 59, 60), 1);
        Check.due("the last day", x.run(0, 0, 3, 1), 596001);
        Refused.outside("from", 0, 59, Starts::some, (y, from) -> y.put(0, 0, 1, from, 60));
        Refused.illegal("from 60 to 61", Starts::some, y -> y.put(0, 0, 1, 60, 61));
        Refused.illegal("from -1 to 0", Starts::some, y -> y.put(0, 0, 1, -1, 0));
    }

    private static void putTo() {
        for (int from : new int[] {0, 1, 30, 59}) {
            Counted x = Starts.some();
            Check.due("a day from " + from, x.put(0, 0, 0, from, from + 1), 1);
            Check.due("all days from " + from, x.put(0, 0, 1, from, 60), 60 - from);
            Check.due("the day behind is 60", x.run(0, 0, 3, 0), 10000 * from + 6001);
            Refused.outside("to, from " + from + ",", from + 1, 60, Starts::some,
                    (y, to) -> y.put(0, 0, 1, from, to));
        }
        Refused.illegal("to before from", Starts::some, y -> y.put(0, 0, 1, 30, 10));
        Refused.outside("to, in full tables,", 1, 60, Starts::full,
                (y, to) -> y.put(1, 0, 0, 0, to));
    }

    private static void putAnswer() {
        Counted x = Starts.some();
        Check.due("none of 10", x.put(0, 2, 10, 0, 10), 0);
        Check.due("the first of 2", x.put(0, 2, 20, 9, 11), 1);
        Check.due("the last of 10", x.put(0, 2, 10, 0, 10), 1);
        Check.due("0 where there was none", x.put(0, 5, 0, 0, 60), 60);
        Check.due("0 once more", x.put(0, 5, 0, 0, 60), 0);
        Check.due("from 0 to 1", x.put(0, 5, 1, 30, 31), 1);
        Check.due("all but that one", x.put(0, 5, 1, 0, 60), 59);
        Check.due("one of table 1", x.put(1, 4, 2, 4, 15), 1);
        Check.due("none of table 1", x.put(1, 4, 2, 4, 15), 0);
        x.erase(0, 5, 0, 60);
        Check.due("what was known before does not count", x.put(0, 5, 1, 0, 60), 60);
        Counted y = Starts.last();
        y.put(0, 2, 11, 0, 10);
        Check.due("what was known yesterday does not count", y.put(0, 2, 10, 0, 20), 20);
        Check.due("all of a full table", Starts.full().put(0, 0, 5, 0, 60), 60);
    }

    private static void putIllegal() {
        for (int wrong : new int[] {LOW, HIGH, -1}) {
            Refused.illegal("all are " + wrong, Starts::full,
                    x -> x.put(wrong, wrong, wrong, wrong, wrong));
        }
        Refused.illegal("a span over all numbers", Starts::full, x -> x.put(0, 0, 1, LOW, HIGH));
        Refused.illegal("a span turned round", Starts::full, x -> x.put(0, 0, 1, HIGH, LOW));
        Refused.illegal("no day", Starts::full, x -> x.put(0, 0, 1, 0, 0));
        Refused.illegal("the table, and no reference", Starts::empty, x -> x.put(2, 0, 0, 0, 1));
        Refused.illegal("the key, and no reference", Starts::empty, x -> x.put(1, 8, 0, 0, 1));
        Refused.illegal("the value, and no reference", Starts::empty, x -> x.put(1, 0, 8, 0, 1));
        Refused.illegal("from, and no reference", Starts::empty, x -> x.put(1, 0, 0, -1, 1));
        Refused.illegal("to, and no reference", Starts::empty, x -> x.put(1, 0, 0, 0, 61));
        Refused.illegal("on the last day of record", Starts::last, x -> x.put(0, 0, 100, 0, 1));
    }

    private static void putReferences() {
        Refused.impossible("in empty tables", Starts::empty, x -> x.put(1, 0, 0, 0, 60));
        for (int missing : new int[] {0, 1, 30, 58, 59}) {
            Supplier<Counted> start = Starts.then(Starts::empty, x -> {
                x.put(0, 6, 0, 0, 60);
                x.erase(0, 6, missing, missing + 1);
            });
            String what = "day " + missing + " alone is missing, ";
            Refused.impossible(what + "put on it", start,
                    x -> x.put(1, 0, 6, missing, missing + 1));
            Refused.impossible(what + "put on all days", start, x -> x.put(1, 7, 6, 0, 60));
        }
        Refused.impossible("a day too many", Starts::some, x -> x.put(1, 0, 2, 0, 21));
        Refused.impossible("another key", Starts::some, x -> x.put(1, 2, 3, 0, 20));
        Refused.impossible("a key of table 1 alone", Starts::some, x -> x.put(1, 0, 4, 5, 15));
        Refused.impossible("a reference to no other key", Starts::some, x -> x.put(1, 4, 3, 5, 6));
        Refused.impossible("known yesterday, not today",
                Starts.then(Starts::last, x -> x.erase(0, 2, 19, 20)), x -> x.put(1, 0, 2, 0, 20));
        Counted x = Starts.some();
        Check.due("on all days that it has", x.put(1, 0, 2, 0, 20), 20);
        Check.due("the key's value may change", x.put(0, 2, 0, 0, 60), 60);
        Check.due("0 is a value", x.put(1, 0, 2, 20, 60), 40);
        Counted y = Starts.full();
        for (int key = 0; key < 8; key++) {
            Check.due("a key of table 0 may have any value", y.put(0, key, key, 0, 60), 60);
            Check.due("a key of table 1 may refer to any", y.put(1, key, key, 0, 60), 60);
        }
    }

    // ---- 3 erase

    private static void erase(Sentences document) {
        document.section("Promise 3: erase");
        document.test("Lets a key have no value on a span of days of validity.",
                ChangeEdgeTests::eraseSpan);
        document.test(TABLE, ChangeEdgeTests::eraseTable);
        document.test(KEY, ChangeEdgeTests::eraseKey);
        document.test(FROM, ChangeEdgeTests::eraseFrom);
        document.test(TO, ChangeEdgeTests::eraseTo);
        document.test("Returns on how many of these days it had one.",
                ChangeEdgeTests::eraseAnswer);
        document.test("Throws `IllegalArgumentException` if table, key, from or to is out of range",
                ChangeEdgeTests::eraseIllegal);
        document.test(HOLD, ChangeEdgeTests::eraseReferences);
        document.allTested();
    }

    private static void eraseSpan() {
        Counted x = Starts.some();
        x.erase(0, 2, 15, 17);
        Check.due("the day before the span", x.value(0, 2, 14, 3), 20);
        Check.due("the span's first day", x.value(0, 2, 15, 3), -1);
        Check.due("the span's last day", x.value(0, 2, 16, 3), -1);
        Check.due("the day behind the span", x.value(0, 2, 17, 3), 20);
        Check.due("known before", x.value(0, 2, 15, 2), 20);
        x = Starts.full();
        x.erase(1, 3, 59, 60);
        Check.due("the last day of full tables", x.keys(1, 59, 2), 255 - 8);
        Check.due("the day before", x.keys(1, 58, 2), 255);
        Check.due("the next key", x.keys(1, 0, 2), 255);
        x.erase(1, 4, 0, 1);
        Check.due("the first day of full tables", x.keys(1, 0, 2), 255 - 16);
        Check.due("the day behind", x.keys(1, 1, 2), 255);
        Check.due("the key before", x.keys(1, 59, 2), 255 - 8);
        Check.due("table 0", x.keys(0, 0, 2), 255);
        x.erase(1, 7, 0, 60);
        Check.due("all days", x.runs(1, 7, 2), 0);
    }

    private static void eraseTable() {
        Supplier<Counted> start = Starts.then(Starts::full, x -> x.erase(1, 5, 0, 60));
        Counted x = start.get();
        Check.due("table 0", x.erase(0, 2, 0, 60), 60);
        Check.due("table 0 has lost it", x.keys(0, 0, 2), 255 - 4);
        Check.due("table 1 has not", x.keys(1, 0, 2), 255 - 32);
        Check.due("table 1", x.erase(1, 2, 0, 60), 60);
        Check.due("table 1 has lost it", x.keys(1, 0, 2), 255 - 32 - 4);
        Refused.outside("table", 0, 1, start, (y, table) -> y.erase(table, 2, 0, 60));
    }

    private static void eraseKey() {
        Counted x = Starts.full();
        Check.due("the first key of table 1", x.erase(1, 0, 0, 60), 60);
        Check.due("the last key of table 1", x.erase(1, 7, 0, 60), 60);
        Check.due("the others stay", x.keys(1, 59, 2), 126);
        Check.due("the first key", x.erase(0, 0, 0, 60), 60);
        Check.due("the last key", x.erase(0, 7, 0, 60), 60);
        Check.due("the others stay in table 0", x.keys(0, 0, 2), 126);
        Refused.outside("key", 0, 7, Starts::some, (y, key) -> y.erase(0, key, 0, 1));
        Refused.outside("key of table 1", 0, 7, Starts::some, (y, key) -> y.erase(1, key, 0, 1));
    }

    private static void eraseFrom() {
        Counted x = Starts.full();
        Check.due("from the first day", x.erase(1, 0, 0, 1), 1);
        Check.due("from the last day", x.erase(1, 0, 59, 60), 1);
        Check.due("the days between stay", x.run(1, 0, 2, 0), 15907);
        Refused.outside("from", 0, 59, Starts::full, (y, from) -> y.erase(1, 0, from, 60));
        Refused.illegal("from 60 to 61", Starts::full, y -> y.erase(1, 0, 60, 61));
        Refused.illegal("from -1 to 0", Starts::full, y -> y.erase(1, 0, -1, 0));
    }

    private static void eraseTo() {
        for (int from : new int[] {0, 1, 30, 59}) {
            Counted x = Starts.full();
            Check.due("a day from " + from, x.erase(1, 0, from, from + 1), 1);
            Check.due("all days from " + from, x.erase(1, 0, from, 60), 59 - from);
            Refused.outside("to, from " + from + ",", from + 1, 60, Starts::full,
                    (y, to) -> y.erase(1, 0, from, to));
        }
        Refused.illegal("to before from", Starts::full, y -> y.erase(1, 0, 30, 10));
        Refused.outside("to, in empty tables,", 1, 60, Starts::empty,
                (y, to) -> y.erase(0, 0, 0, to));
    }

    private static void eraseAnswer() {
        Check.due("none of an empty table", Starts.empty().erase(0, 0, 0, 60), 0);
        Check.due("none of an empty table 1", Starts.empty().erase(1, 7, 0, 60), 0);
        Check.due("all of a full table", Starts.full().erase(1, 7, 0, 60), 60);
        Counted x = Starts.some();
        Check.due("those of its two values", x.erase(0, 2, 15, 60), 5);
        Check.due("none once more", x.erase(0, 2, 15, 60), 0);
        Check.due("one on both sides of a gap", x.erase(0, 2, 3, 5) + x.erase(0, 2, 2, 5), 3);
        Check.due("those of table 1", x.erase(1, 4, 0, 60), 10);
        x.put(0, 0, 0, 58, 60);
        Check.due("0 is a value", x.erase(0, 0, 0, 60), 2);
        Check.due("what was known before does not count", x.erase(0, 2, 15, 20), 0);
    }

    private static void eraseIllegal() {
        for (int wrong : new int[] {LOW, HIGH, -1}) {
            Refused.illegal("all are " + wrong, Starts::full,
                    x -> x.erase(wrong, wrong, wrong, wrong));
        }
        Refused.illegal("a span over all numbers", Starts::full, x -> x.erase(1, 0, LOW, HIGH));
        Refused.illegal("a span turned round", Starts::full, x -> x.erase(1, 0, HIGH, LOW));
        Refused.illegal("no day", Starts::full, x -> x.erase(1, 0, 0, 0));
        Refused.illegal("the table, and a reference", Starts::full, x -> x.erase(-1, 0, 0, 60));
        Refused.illegal("the key, and a reference", Starts::full, x -> x.erase(0, 8, 0, 60));
        Refused.illegal("from, and a reference", Starts::full, x -> x.erase(0, 0, -1, 60));
        Refused.illegal("to, and a reference", Starts::full, x -> x.erase(0, 0, 0, 61));
        Refused.illegal("to below from, and a reference", Starts::full, x -> x.erase(0, 0, 9, 8));
        Refused.illegal("on the last day of record", Starts::last, x -> x.erase(0, 0, 59, 61));
    }

    private static void eraseReferences() {
        Refused.impossible("the first day", Starts::some, x -> x.erase(0, 2, 0, 6));
        Refused.impossible("the first day alone", Starts::some, x -> x.erase(0, 2, 5, 6));
        Refused.impossible("a day between", Starts::some, x -> x.erase(0, 2, 9, 11));
        Refused.impossible("the last day alone", Starts::some, x -> x.erase(0, 2, 14, 15));
        Refused.impossible("the last day", Starts::some, x -> x.erase(0, 2, 14, 60));
        Refused.impossible("all days", Starts::some, x -> x.erase(0, 2, 0, 60));
        Refused.impossible("on the last day of record", Starts::last, x -> x.erase(0, 2, 0, 60));
        for (int key = 0; key < 8; key++) {
            int asked = key;
            String what = "key " + key + " of full tables, ";
            Refused.impossible(what + "day 0", Starts::full, x -> x.erase(0, asked, 0, 1));
            Refused.impossible(what + "day 59", Starts::full, x -> x.erase(0, asked, 59, 60));
        }
        Counted x = Starts.some();
        Check.due("up to the first day", x.erase(0, 2, 0, 5), 5);
        Check.due("from the last day on", x.erase(0, 2, 15, 60), 5);
        Check.due("a key that nothing refers to", x.erase(0, 4, 0, 60), 0);
        Check.due("a reference itself", x.erase(1, 4, 0, 6), 1);
        Check.due("the day of that reference", x.erase(0, 2, 0, 6), 1);
        Counted y = Starts.last();
        y.erase(1, 4, 0, 60);
        Check.due("a reference known yesterday holds nothing", y.erase(0, 2, 0, 60), 20);
    }

    // ---- 4 eraseAll

    private static void eraseAll(Sentences document) {
        document.section("Promise 4: eraseAll");
        document.test("Lets a key of table 0 have no value on a span of days of validity, and all "
                + "keys of table 1 that refer to it on one of these days none on that day.",
                ChangeEdgeTests::eraseAllOfBoth);
        document.test(KEY, ChangeEdgeTests::eraseAllKey);
        document.test(FROM, ChangeEdgeTests::eraseAllFrom);
        document.test(TO, ChangeEdgeTests::eraseAllTo);
        document.test("Returns on how many days keys lose a value, summed up over all keys of "
                + "both tables.", ChangeEdgeTests::eraseAllAnswer);
        document.test("Throws `IllegalArgumentException` if key, from or to is out of range",
                ChangeEdgeTests::eraseAllIllegal);
        document.allTested();
    }

    private static void eraseAllOfBoth() {
        Counted x = Starts.some();
        x.eraseAll(2, 5, 14);
        Check.due("the key before the span", x.run(0, 2, 3, 0), 510);
        Check.due("the key behind the span", x.run(0, 2, 3, 1), 142020);
        Check.due("the key has no third run", x.runs(0, 2, 3), 2);
        Check.due("the reference behind the span", x.run(1, 4, 3, 0), 141502);
        Check.due("the reference has no second run", x.runs(1, 4, 3), 1);
        Check.due("known before", x.runs(0, 2, 2), 2);
        x = Starts.some();
        x.eraseAll(2, 6, 60);
        Check.due("the reference before the span", x.run(1, 4, 3, 0), 50602);
        x = Starts.full();
        x.eraseAll(2, 59, 60);
        Check.due("the last day of full tables", x.keys(0, 59, 2), 255 - 4);
        Check.due("and of table 1", x.keys(1, 59, 2), 255 - 32);
        Check.due("the day before", x.keys(0, 58, 2) + x.keys(1, 58, 2), 510);
        x.eraseAll(3, 0, 1);
        Check.due("the first day of full tables", x.keys(0, 0, 2), 255 - 8);
        Check.due("and of table 1 then", x.keys(1, 0, 2), 255 - 16);
        Check.due("the day behind", x.keys(0, 1, 2) + x.keys(1, 1, 2), 510);
        eraseAllReferences();
    }

    private static void eraseAllReferences() {
        Counted x = new Counted();
        x.put(0, 0, 7, 0, 60);
        x.put(0, 1, 7, 0, 60);
        for (int key = 0; key < 8; key++) {
            x.put(1, key, key == 4 ? 1 : 0, 0, 60);
        }
        x.put(1, 7, 1, 30, 60);
        x.eraseAll(0, 10, 40);
        Check.due("all that refer to it on the first day", x.keys(1, 10, 0), 16);
        Check.due("on a day when one refers to another", x.keys(1, 30, 0), 128 + 16);
        Check.due("on the last day", x.keys(1, 39, 0), 128 + 16);
        Check.due("on the day before", x.keys(1, 9, 0), 255);
        Check.due("on the day behind", x.keys(1, 40, 0), 255);
        Check.due("the key of table 1 with another reference", x.run(1, 4, 0, 0), 6001);
        Check.due("the key that was not meant", x.run(0, 1, 0, 0), 6007);
    }

    private static void eraseAllKey() {
        Counted x = Starts.full();
        Check.due("the first key", x.eraseAll(0, 0, 60), 120);
        Check.due("what referred to it", x.keys(1, 0, 2), 127);
        Check.due("the last key", x.eraseAll(7, 0, 60), 120);
        Check.due("what referred to this", x.keys(1, 59, 2), 126);
        Check.due("table 0", x.keys(0, 59, 2), 126);
        Refused.outside("key", 0, 7, Starts::full, (y, key) -> y.eraseAll(key, 0, 60));
        Refused.outside("key, in empty tables,", 0, 7, Starts::empty,
                (y, key) -> y.eraseAll(key, 0, 60));
    }

    private static void eraseAllFrom() {
        Counted x = Starts.full();
        Check.due("from the first day", x.eraseAll(4, 0, 1), 2);
        Check.due("from the last day", x.eraseAll(4, 59, 60), 2);
        Check.due("the days between stay", x.run(0, 4, 2, 0), 15994);
        Refused.outside("from", 0, 59, Starts::full, (y, from) -> y.eraseAll(4, from, 60));
        Refused.illegal("from 60 to 61", Starts::full, y -> y.eraseAll(4, 60, 61));
        Refused.illegal("from -1 to 0", Starts::full, y -> y.eraseAll(4, -1, 0));
    }

    private static void eraseAllTo() {
        for (int from : new int[] {0, 1, 30, 59}) {
            Counted x = Starts.full();
            Check.due("a day from " + from, x.eraseAll(5, from, from + 1), 2);
            Check.due("all days from " + from, x.eraseAll(5, from, 60), 118 - 2 * from);
            Refused.outside("to, from " + from + ",", from + 1, 60, Starts::full,
                    (y, to) -> y.eraseAll(5, from, to));
        }
        Refused.illegal("to before from", Starts::full, y -> y.eraseAll(5, 30, 10));
    }

    private static void eraseAllAnswer() {
        Check.due("none of empty tables", Starts.empty().eraseAll(0, 0, 60), 0);
        Counted x = Starts.some();
        Check.due("of the key alone", x.eraseAll(2, 0, 5), 5);
        Check.due("of the key and its reference", x.eraseAll(2, 5, 20), 15 + 10);
        Check.due("none once more", x.eraseAll(2, 0, 60), 0);
        Check.due("none of a key without values", x.eraseAll(4, 0, 60), 0);
        x.put(0, 0, 0, 58, 60);
        x.put(1, 0, 0, 59, 60);
        Check.due("0 is a value in both tables", x.eraseAll(0, 0, 60), 3);
        Counted y = Starts.full();
        for (int key = 0; key < 8; key++) {
            y.put(1, key, 6, 0, 60);
        }
        Check.due("of a key without references", y.eraseAll(5, 0, 60), 60);
        Check.due("as many as can be", y.eraseAll(6, 0, 60), 540);
    }

    private static void eraseAllIllegal() {
        for (int wrong : new int[] {LOW, HIGH, -1}) {
            Refused.illegal("all are " + wrong, Starts::full, x -> x.eraseAll(wrong, wrong, wrong));
        }
        Refused.illegal("a span over all numbers", Starts::full, x -> x.eraseAll(0, LOW, HIGH));
        Refused.illegal("a span turned round", Starts::full, x -> x.eraseAll(0, HIGH, LOW));
        Refused.illegal("no day", Starts::full, x -> x.eraseAll(0, 0, 0));
        Refused.illegal("on the last day of record", Starts::last, x -> x.eraseAll(2, 0, 61));
    }

    // ---- 5 restore

    private static void restore(Sentences document) {
        document.section("Promise 5: restore");
        document.test("Lets the values of a key be again what they were on a day of record, for "
                + "all days of validity.", ChangeEdgeTests::restoreAllDays);
        document.test(TABLE, ChangeEdgeTests::restoreTable);
        document.test(KEY, ChangeEdgeTests::restoreKey);
        document.test("- `record`: a day of record, up to today", ChangeEdgeTests::restoreRecord);
        document.test("Returns on how many days of validity its value changes, is lost or won.",
                ChangeEdgeTests::restoreAnswer);
        document.test("Throws `IllegalArgumentException` if table, key or record is out of range",
                ChangeEdgeTests::restoreIllegal);
        document.test("Throws `IndexOutOfBoundsException` if record is later than today",
                ChangeEdgeTests::restoreLater);
        document.test(HOLD, ChangeEdgeTests::restoreReferences);
        document.allTested();
    }

    private static void restoreAllDays() {
        Counted x = Starts.then(Starts::sixtyRuns, y -> y.pass(58)).get();
        x.put(0, 0, 50, 0, 60);
        x.pass(1);
        x.restore(0, 0, 0);
        Check.due("the first day", x.value(0, 0, 0, 59), 99);
        Check.due("the last day", x.value(0, 0, 59, 59), 0);
        Check.due("all runs", x.runs(0, 0, 59), 60);
        Check.due("what was known meanwhile", x.run(0, 0, 58, 0), 6050);
        x.restore(0, 0, 58);
        Check.due("again what it was meanwhile", x.run(0, 0, 59, 0), 6050);
        Check.due("on day 0 still", x.runs(0, 0, 0), 60);
        Counted y = Starts.full();
        y.put(0, 1, 0, 0, 60);
        y.put(0, 2, 0, 0, 60);
        y.restore(0, 1, 1);
        Check.due("the key meant", y.run(0, 1, 2, 0), 6091);
        Check.due("the next key", y.run(0, 2, 2, 0), 6000);
        Counted z = Starts.full();
        z.eraseAll(0, 0, 60);
        z.restore(0, 0, 0);
        Check.due("a reference that was lost is not meant", z.runs(1, 7, 2), 0);
    }

    private static void restoreTable() {
        Supplier<Counted> start = Starts.then(Starts::full, x -> {
            x.put(0, 3, 1, 0, 60);
            x.put(1, 3, 1, 0, 60);
        });
        Counted x = start.get();
        Check.due("table 0", x.restore(0, 3, 0), 60);
        Check.due("table 0 has it again", x.value(0, 3, 0, 2), 93);
        Check.due("table 1 has not", x.value(1, 3, 0, 2), 1);
        Check.due("table 1", x.restore(1, 3, 0), 60);
        Check.due("table 1 has it again", x.value(1, 3, 0, 2), 4);
        Refused.outside("table", 0, 1, start, (y, table) -> y.restore(table, 3, 0));
    }

    private static void restoreKey() {
        Supplier<Counted> start = Starts.then(Starts::full, x -> {
            for (int key = 0; key < 8; key++) {
                x.put(0, key, 1, 0, 60);
                x.put(1, key, 5, 0, 60);
            }
        });
        for (int key : new int[] {0, 7}) {
            Counted x = start.get();
            Check.due("key " + key, x.restore(0, key, 0), 60);
            Check.due("it is again", x.value(0, key, 0, 2), 90 + key);
            Check.due("the key beside it is not", x.value(0, key == 0 ? 1 : 6, 0, 2), 1);
            Check.due("key " + key + " of table 1", x.restore(1, key, 0), 60);
            Check.due("it is again in table 1", x.value(1, key, 0, 2), 7 - key);
            Check.due("the key beside it there is not", x.value(1, key == 0 ? 1 : 6, 0, 2), 5);
        }
        Refused.outside("key", 0, 7, start, (y, key) -> y.restore(0, key, 0));
        Refused.outside("key of table 1", 0, 7, start, (y, key) -> y.restore(1, key, 0));
    }

    private static void restoreRecord() {
        Counted x = Starts.last();
        x.put(0, 2, 50, 0, 20);
        Check.due("the last day of record is today", x.restore(0, 2, 59), 0);
        Check.due("the first day of record", x.restore(0, 2, 0), 20);
        Check.due("the day before the last", x.restore(0, 2, 58), 0);
        Counted y = Starts.some();
        y.erase(0, 2, 0, 5);
        Check.due("today", y.restore(0, 2, 3), 0);
        Check.due("yesterday", y.restore(0, 2, 2), 5);
        Refused.records("restore", Starts::some, (z, record) -> z.restore(0, 2, record));
        Refused.records("restore in full tables", Starts::full, (z, at) -> z.restore(1, 7, at));
        Refused.records("restore at last", Starts::last, (z, record) -> z.restore(0, 2, record));
        Refused.records("restore at first", Starts::empty, (z, record) -> z.restore(0, 0, record));
    }

    private static void restoreAnswer() {
        Check.due("none in empty tables", Starts.empty().restore(1, 7, 0), 0);
        Counted x = Starts.some();
        Check.due("none", x.restore(0, 2, 0), 0);
        x.put(0, 2, 11, 0, 4);
        Check.due("changed", x.restore(0, 2, 0), 4);
        x.put(0, 2, 11, 20, 60);
        Check.due("lost", x.restore(0, 2, 0), 40);
        x.erase(0, 2, 15, 20);
        Check.due("won", x.restore(0, 2, 0), 5);
        x.put(0, 2, 11, 0, 4);
        x.put(0, 2, 0, 59, 60);
        x.erase(0, 2, 18, 20);
        Check.due("all three", x.restore(0, 2, 2), 4 + 1 + 2);
        Check.due("lost in table 1", x.restore(1, 4, 2), 10);
        Counted y = Starts.full();
        y.put(1, 7, 1, 0, 60);
        Check.due("all of a full table", y.restore(1, 7, 1), 60);
        Counted z = Starts.then(Starts::full, w -> w.eraseAll(0, 0, 60)).get();
        Check.due("won on all days", z.restore(0, 0, 0), 60);
    }

    private static void restoreIllegal() {
        for (int wrong : new int[] {LOW, HIGH, -1, 60}) {
            Refused.illegal("all are " + wrong, Starts::full, x -> x.restore(wrong, wrong, wrong));
        }
        Refused.illegal("the table, and later", Starts::some, x -> x.restore(2, 2, 59));
        Refused.illegal("the table, and tomorrow", Starts::some, x -> x.restore(-1, 2, 4));
        Refused.illegal("the key, and later", Starts::some, x -> x.restore(0, 8, 59));
        Refused.illegal("the key, and tomorrow", Starts::some, x -> x.restore(1, -1, 4));
        Refused.illegal("day 60 at last", Starts::last, x -> x.restore(0, 2, 60));
        Supplier<Counted> start = Starts.then(Starts::some, x -> {
            x.put(0, 7, 1, 0, 60);
            x.put(1, 7, 7, 0, 60);
        });
        Refused.illegal("the table, and a reference", start, x -> x.restore(2, 7, 0));
        Refused.illegal("the key, and a reference", start, x -> x.restore(0, 8, 0));
        Refused.illegal("the record, and a reference", start, x -> x.restore(0, 7, -1));
    }

    private static void restoreLater() {
        Refused.outOfBounds("day 1 on day 0", Starts::empty, x -> x.restore(0, 0, 1));
        Refused.outOfBounds("day 59 on day 0", Starts::empty, x -> x.restore(1, 0, 59));
        Supplier<Counted> start = Starts.then(Starts::last, x -> { });
        Check.due("day 59 on day 59", start.get().restore(1, 4, 59), 0);
        Supplier<Counted> before = Starts.then(Starts::some, x -> x.pass(55));
        Refused.outOfBounds("day 59 on day 58", before, x -> x.restore(1, 4, 59));
        Check.due("day 58 on day 58", before.get().restore(1, 4, 58), 0);
        Supplier<Counted> held = Starts.then(Starts::some, x -> {
            x.put(0, 7, 1, 0, 60);
            x.put(1, 7, 7, 0, 60);
        });
        Refused.outOfBounds("later, and a key that is referred to", held, x -> x.restore(0, 7, 4));
    }

    private static void restoreReferences() {
        for (int day : new int[] {0, 1, 30, 58, 59}) {
            Supplier<Counted> held = Starts.then(Starts::some, x -> {
                x.put(0, 7, 1, 0, 60);
                x.put(1, 0, 7, day, day + 1);
            });
            String what = "a reference on day " + day + " alone";
            Refused.impossible(what, held, x -> x.restore(0, 7, 0));
            Check.due(what + ", the key kept", held.get().restore(0, 7, 3), 0);
            Check.due(what + ", erased first", freed(held).restore(0, 7, 0), 60);
            Supplier<Counted> lost = Starts.then(Starts::full, x -> x.eraseAll(7, day, day + 1));
            Refused.impossible("nothing to refer to on day " + day, lost, x -> x.restore(1, 0, 1));
            Counted x = lost.get();
            Check.due("the key first", x.restore(0, 7, 1), 1);
            Check.due("then the reference", x.restore(1, 0, 1), 1);
        }
        Counted x = Starts.full();
        x.put(0, 7, 1, 0, 60);
        Check.due("another value of a key that is referred to", x.restore(0, 7, 0), 60);
        x.put(1, 0, 3, 0, 60);
        Check.due("a reference to what has another value", x.restore(1, 0, 0), 60);
        Counted y = Starts.full();
        y.eraseAll(7, 0, 60);
        Refused.impossible("on the last day of record", Starts.then(Starts::full, z -> {
            z.eraseAll(7, 0, 60);
            z.pass(57);
        }), z -> z.restore(1, 0, 1));
    }

    private static Counted freed(Supplier<Counted> start) {
        Counted x = start.get();
        x.erase(1, 0, 0, 60);
        return x;
    }

    // ---- 6 pass

    private static void pass(Sentences document) {
        document.section("Promise 6: pass");
        document.test("Lets days pass.", ChangeEdgeTests::passKeepsAll);
        document.test("- `days`: 1 to 59", ChangeEdgeTests::passDays);
        document.test("Returns today then.", ChangeEdgeTests::passAnswer);
        document.test("Throws `IllegalArgumentException` if days is out of range",
                ChangeEdgeTests::passIllegal);
        document.test("Throws `IllegalStateException` if today would be later than day 59",
                ChangeEdgeTests::passTooFar);
        document.allTested();
    }

    private static void passKeepsAll() {
        for (int days : new int[] {1, 2, 30, 58, 59}) {
            Counted x = new Counted();
            x.put(0, 7, 9, 0, 60);
            x.put(1, 0, 7, 59, 60);
            x.pass(days);
            for (int record = 0; record <= days; record++) {
                Check.due("a value on record " + record, x.value(0, 7, 0, record), 9);
                Check.due("a reference on record " + record, x.joined(0, 59, record), 9);
                Check.due("none on record " + record, x.value(1, 7, 59, record), -1);
            }
            x.eraseAll(7, 0, 60);
            Check.due("a change on the new day", x.value(0, 7, 0, days), -1);
            Check.due("is none on the day before", x.value(0, 7, 0, days - 1), 9);
            Check.due("nor on the first", x.value(0, 7, 0, 0), 9);
        }
        Counted x = new Counted();
        x.pass(59);
        Check.due("empty tables stay empty", x.keys(0, 0, 59) + x.keys(1, 59, 30), 0);
    }

    private static void passDays() {
        Check.due("1", Starts.empty().pass(1), 1);
        Check.due("2", Starts.empty().pass(2), 2);
        Check.due("58", Starts.empty().pass(58), 58);
        Check.due("59", Starts.empty().pass(59), 59);
        Refused.outside("days", 1, 59, Starts::empty, Counted::pass);
        Refused.outside("days, of full tables,", 1, 59, Starts::full, Counted::pass);
    }

    private static void passAnswer() {
        Counted x = new Counted();
        for (int day = 1; day < 60; day++) {
            Check.due("a day", x.pass(1), day);
            Check.due("today", x.today(), day);
        }
        Counted y = Starts.some();
        Check.due("from day 3 on", y.pass(20), 23);
        Check.due("from day 23 on", y.pass(36), 59);
    }

    private static void passIllegal() {
        Refused.outside("days, on the last day,", 1, 59, Starts::last, Counted::pass);
        Refused.outside("days, on day 3,", 1, 59, Starts::some, Counted::pass);
        Supplier<Counted> before = Starts.then(Starts::some, x -> x.pass(55));
        Refused.outside("days, on day 58,", 1, 59, before, Counted::pass);
        Refused.illegal("back to day 0", Starts::some, x -> x.pass(-3));
        Refused.illegal("so many that the sum turns round", Starts::some, x -> x.pass(HIGH - 2));
    }

    private static void passTooFar() {
        for (int day = 1; day < 59; day++) {
            int last = 59 - day;
            Supplier<Counted> start = Starts.then(Starts::empty, x -> x.pass(59 - last));
            Check.due("to day 59 from " + day, start.get().pass(last), 59);
            Refused.impossible("to day 60 from " + day, start, x -> x.pass(last + 1));
            Refused.impossible("59 days from " + day, start, x -> x.pass(59));
        }
        Refused.impossible("a day from day 59", Starts::last, x -> x.pass(1));
        Refused.impossible("59 days from day 59", Starts::last, x -> x.pass(59));
        Refused.impossible("58 days from day 2", Starts::full, x -> x.pass(58));
        Counted x = Starts.some();
        Check.impossible("57 days from day 3", () -> x.pass(57));
        Check.due("as many as there are", x.pass(56), 59);
        Check.due("changes of the last day", x.put(0, 0, 1, 0, 60), 60);
        Check.due("are known on it", x.value(0, 0, 59, 59), 1);
        Check.due("and not on the day before", x.value(0, 0, 59, 58), -1);
    }

    // ---- 7 today

    private static void today(Sentences document) {
        document.section("Promise 7: today");
        document.test("Returns today.", ChangeEdgeTests::todayGoesOn);
        document.test("Returns 0 to 59.", ChangeEdgeTests::todayFirstAndLast);
        document.allTested();
    }

    private static void todayGoesOn() {
        Counted x = Starts.some();
        Check.due("behind some calls", x.today(), 3);
        Check.due("asked again", x.today(), 3);
        x.put(0, 0, 1, 0, 60);
        x.erase(0, 0, 0, 1);
        x.eraseAll(0, 0, 60);
        x.restore(0, 2, 0);
        Check.due("behind changes", x.today(), 3);
        x.value(0, 0, 59, 0);
        x.rows(0, 2);
        x.corrections(0, 2, 0, 0, 3);
        Check.due("behind questions", x.today(), 3);
        x.pass(1);
        Check.due("behind a day", x.today(), 4);
        Check.illegal("no days", () -> x.pass(0));
        Check.impossible("too many days", () -> x.pass(59));
        Check.due("behind calls that throw", x.today(), 4);
    }

    private static void todayFirstAndLast() {
        Check.due("at first", Starts.empty().today(), 0);
        Check.due("at last", Starts.last().today(), 59);
        Counted x = new Counted();
        x.pass(59);
        Check.due("at once at last", x.today(), 59);
        Check.impossible("a day more", () -> x.pass(1));
        Check.due("at last still", x.today(), 59);
    }
}
