import java.io.IOException;
import java.util.function.Supplier;

/** Promises 8 to 10 and 18 to 20, sentence by sentence, each with the cases at its ends. */
public final class QuestionEdgeTests {
    private static final String TABLE = "- `table`: 0 or 1";
    private static final String KEY = "- `key`: 0 to 7";
    private static final String KEY_OF_1 = "- `key`: 0 to 7, of table 1";
    private static final String VALID = "- `valid`: day of validity, 0 to 59";
    private static final String RECORD = "- `record`: day of record";
    private static final String ILLEGAL = "Throws `IllegalArgumentException` if ";
    private static final String LATER =
            "Throws `IndexOutOfBoundsException` if record is later than today";
    private static final int[] FAR = {Integer.MIN_VALUE, Integer.MAX_VALUE, -1, 60};

    public static void main(String[] args) throws IOException {
        Sentences document = new Sentences(args[1]);
        value(document);
        keys(document);
        joined(document);
        corrections(document);
        longest(document);
        average(document);
        Check.end("QuestionEdgeTests");
    }

    // ---- 8 value

    private static void value(Sentences document) {
        document.section("Promise 8: value");
        document.test("Returns the value of a key.", QuestionEdgeTests::valueOfDays);
        document.test(TABLE, () -> {
            Counted x = Starts.full();
            Check.due("table 0", x.value(0, 2, 0, 2), 92);
            Check.due("table 1", x.value(1, 2, 0, 2), 5);
            Refused.outside("table", 0, 1, Starts::full, (y, table) -> y.value(table, 2, 0, 2));
        });
        document.test(KEY, () -> {
            Counted x = Starts.full();
            for (int key = 0; key < 8; key++) {
                Check.due("key " + key, x.value(0, key, 59, 2), 90 + key);
                Check.due("key " + key + " of table 1", x.value(1, key, 59, 2), 7 - key);
            }
            Refused.outside("key", 0, 7, Starts::full, (y, key) -> y.value(0, key, 0, 2));
            Refused.outside("key of 1", 0, 7, Starts::full, (y, key) -> y.value(1, key, 59, 0));
        });
        document.test(VALID, () -> {
            Counted x = Starts.sixtyRuns();
            for (int day = 0; day < 60; day++) {
                Check.due("day " + day, x.value(0, 0, day, 0), day % 2 == 0 ? 99 : 0);
            }
            Refused.outside("valid", 0, 59, Starts::full, (y, day) -> y.value(0, 0, day, 2));
            Refused.outside("valid of 1", 0, 59, Starts::full, (y, day) -> y.value(1, 7, day, 0));
        });
        document.test(RECORD, QuestionEdgeTests::valueOnRecord);
        document.test("Returns the value, -1 if there is none.", QuestionEdgeTests::valueOrNone);
        document.test(ILLEGAL + "table, key, valid or record is out of range", () -> {
            for (int far : FAR) {
                Refused.illegal("all are " + far, Starts::full, x -> x.value(far, far, far, far));
                Refused.illegal("record is " + far, Starts::empty, x -> x.value(0, 0, 0, far));
            }
            Refused.illegal("the table, and later", Starts::full, x -> x.value(2, 0, 0, 3));
            Refused.illegal("the key, and later", Starts::full, x -> x.value(0, 8, 0, 59));
            Refused.illegal("valid, and later", Starts::full, x -> x.value(0, 0, 60, 3));
            Refused.illegal("valid below 0, and later", Starts::full, x -> x.value(0, 0, -1, 59));
        });
        document.test(LATER,
                () -> Refused.later("value", (x, record) -> x.value(1, 7, 59, record)));
        document.allTested();
    }

    private static void valueOfDays() {
        Counted x = Starts.some();
        Check.due("the first day of a span", x.value(0, 2, 0, 3), 10);
        Check.due("its last day", x.value(0, 2, 9, 3), 10);
        Check.due("the next one's first day", x.value(0, 2, 10, 3), 20);
        Check.due("its last", x.value(0, 2, 19, 3), 20);
        Check.due("the day behind", x.value(0, 2, 20, 3), -1);
        Check.due("the last day of all", x.value(0, 2, 59, 3), -1);
        Check.due("a reference", x.value(1, 4, 5, 3), 2);
        Check.due("the day before it", x.value(1, 4, 4, 3), -1);
        Check.due("the day behind it", x.value(1, 4, 15, 3), -1);
        Check.due("before it was put", x.value(1, 4, 5, 2), -1);
    }

    private static void valueOnRecord() {
        Counted x = new Counted();
        for (int record = 0; record < 60; record++) {
            x.put(0, 7, 20 + record, 30, 60);
            for (int asked : new int[] {0, record / 2, record}) {
                Check.due("day " + asked + " on day " + record, x.value(0, 7, 59, asked),
                        20 + asked);
            }
            if (record < 59) {
                x.pass(1);
            }
        }
        for (int asked = 0; asked < 60; asked++) {
            Check.due("day " + asked + " at last", x.value(0, 7, 30, asked), 20 + asked);
        }
        Refused.recordsOfFull("value", (y, record) -> y.value(0, 7, 59, record));
    }

    private static void valueOrNone() {
        Counted x = Starts.empty();
        Check.due("none in empty tables", x.value(0, 0, 0, 0) + x.value(1, 7, 59, 0), -2);
        x.put(0, 0, 0, 0, 60);
        x.put(1, 7, 0, 0, 60);
        Check.due("0 is a value", x.value(0, 0, 0, 0), 0);
        Check.due("0 is a reference", x.value(1, 7, 59, 0), 0);
        x.put(0, 0, 99, 0, 60);
        Check.due("the greatest", x.value(0, 0, 59, 0), 99);
        x.eraseAll(0, 0, 60);
        Check.due("none any more", x.value(0, 0, 0, 0) + x.value(1, 7, 59, 0), -2);
    }

    // ---- 9 keys

    private static void keys(Sentences document) {
        document.section("Promise 9: keys");
        document.test("Returns the keys that have a value.", QuestionEdgeTests::keysWithValues);
        document.test(TABLE, () -> {
            Counted x = Starts.some();
            Check.due("table 0", x.keys(0, 5, 3), 4);
            Check.due("table 1", x.keys(1, 5, 3), 16);
            Refused.outside("table", 0, 1, Starts::full, (y, table) -> y.keys(table, 0, 2));
        });
        document.test(VALID, () -> {
            Counted x = Starts.some();
            x.put(0, 0, 1, 0, 1);
            x.put(0, 7, 1, 59, 60);
            Check.due("the first day", x.keys(0, 0, 3), 1 + 4);
            Check.due("the day behind it", x.keys(0, 1, 3), 4);
            Check.due("the last day", x.keys(0, 59, 3), 128);
            Check.due("the day before it", x.keys(0, 58, 3), 0);
            Refused.outside("valid", 0, 59, Starts::full, (y, day) -> y.keys(0, day, 2));
            Refused.outside("valid of 1", 0, 59, Starts::full, (y, day) -> y.keys(1, day, 0));
        });
        document.test(RECORD, () -> {
            Counted x = new Counted();
            for (int record = 0; record < 60; record++) {
                x.erase(0, (record + 7) % 8, 0, 60);
                x.put(0, record % 8, 1, 0, 60);
                Check.due("today", x.keys(0, 59, record), 1 << record % 8);
                if (record < 59) {
                    x.pass(1);
                }
            }
            for (int record = 0; record < 60; record++) {
                Check.due("day " + record + " at last", x.keys(0, 0, record), 1 << record % 8);
            }
            Refused.recordsOfFull("keys", (y, record) -> y.keys(1, 0, record));
        });
        document.test("Returns the keys, as a set: bit k for key k.", () -> {
            Counted x = Starts.full();
            Check.due("all keys of both tables", x.keys(0, 59, 0) + x.keys(1, 0, 2), 510);
            for (int key = 0; key < 8; key++) {
                Counted y = Starts.empty();
                y.put(0, key, 0, 30, 31);
                y.put(1, 7 - key, key, 30, 31);
                Check.due("key " + key + " alone", y.keys(0, 30, 0), 1 << key);
                Check.due("key " + (7 - key) + " alone", y.keys(1, 30, 0), 1 << 7 - key);
                x.eraseAll(key, 30, 31);
                Check.due("those above " + key, x.keys(0, 30, 2), 256 - (2 << key));
                Check.due("those below " + (7 - key), x.keys(1, 30, 2), (1 << 7 - key) - 1);
            }
        });
        document.test(ILLEGAL + "table, valid or record is out of range", () -> {
            for (int far : FAR) {
                Refused.illegal("all are " + far, Starts::full, x -> x.keys(far, far, far));
                Refused.illegal("record is " + far, Starts::empty, x -> x.keys(0, 0, far));
            }
            Refused.illegal("the table, and later", Starts::full, x -> x.keys(2, 0, 3));
            Refused.illegal("the table below 0, and later", Starts::full, x -> x.keys(-1, 0, 59));
            Refused.illegal("valid, and later", Starts::full, x -> x.keys(0, 60, 3));
            Refused.illegal("valid below 0, and later", Starts::full, x -> x.keys(0, -1, 59));
        });
        document.test(LATER, () -> Refused.later("keys", (x, record) -> x.keys(0, 59, record)));
        document.allTested();
    }

    private static void keysWithValues() {
        Check.due("none in an empty table", Starts.empty().keys(0, 0, 0), 0);
        Check.due("none in an empty table 1", Starts.empty().keys(1, 59, 0), 0);
        Counted x = Starts.some();
        Check.due("the first day of a span", x.keys(1, 5, 3), 16);
        Check.due("the day before", x.keys(1, 4, 3), 0);
        Check.due("the last day", x.keys(1, 14, 3), 16);
        Check.due("the day behind", x.keys(1, 15, 3), 0);
        Check.due("before it was put", x.keys(1, 5, 2), 0);
        x.put(0, 0, 0, 10, 11);
        Check.due("0 is a value", x.keys(0, 10, 3), 5);
        x.erase(1, 4, 0, 60);
        Check.due("none any more", x.keys(1, 5, 3), 0);
    }

    // ---- 10 joined

    private static void joined(Sentences document) {
        document.section("Promise 10: joined");
        document.test("Returns the value of the key of table 0 to which a key of table 1 refers.",
                QuestionEdgeTests::joinedValue);
        document.test(KEY_OF_1, () -> {
            Counted x = Starts.full();
            for (int key = 0; key < 8; key++) {
                Check.due("key " + key, x.joined(key, 0, 2), 97 - key);
            }
            Counted y = Starts.some();
            Check.due("a key of table 0 alone", y.joined(2, 5, 3), -1);
            Refused.outside("key", 0, 7, Starts::full, (z, key) -> z.joined(key, 0, 2));
        });
        document.test(VALID, () -> {
            Counted x = Starts.full();
            x.put(0, 7, 1, 0, 1);
            x.put(0, 7, 2, 59, 60);
            Check.due("the first day", x.joined(0, 0, 2), 1);
            Check.due("the day behind it", x.joined(0, 1, 2), 97);
            Check.due("the day before the last", x.joined(0, 58, 2), 97);
            Check.due("the last day", x.joined(0, 59, 2), 2);
            Refused.outside("valid", 0, 59, Starts::full, (y, day) -> y.joined(0, day, 2));
        });
        document.test(RECORD, () -> {
            Counted x = Starts.then(Starts::full, y -> y.pass(56)).get();
            x.put(0, 7, 50, 0, 60);
            x.pass(1);
            x.put(1, 0, 3, 0, 60);
            Check.due("the first day of record", x.joined(0, 0, 0), 97);
            Check.due("before the value changes", x.joined(0, 0, 57), 97);
            Check.due("when the value has changed", x.joined(0, 0, 58), 50);
            Check.due("when the reference has, on the last day", x.joined(0, 0, 59), 93);
            Refused.recordsOfFull("joined", (y, record) -> y.joined(7, 59, record));
        });
        document.test("Returns the value in table 0, -1 if the key has none in table 1.", () -> {
            Check.due("none in empty tables", Starts.empty().joined(0, 0, 0), -1);
            Counted x = Starts.some();
            x.put(0, 2, 0, 5, 6);
            x.put(0, 2, 99, 14, 15);
            Check.due("0", x.joined(4, 5, 3), 0);
            Check.due("99", x.joined(4, 14, 3), 99);
            Check.due("none on the day before", x.joined(4, 4, 3), -1);
            Check.due("none on the day behind", x.joined(4, 15, 3), -1);
            Check.due("none before it was put", x.joined(4, 5, 2), -1);
            x.put(0, 0, 77, 0, 60);
            Check.due("key 0 is not meant where there is none", x.joined(4, 15, 3), -1);
            x.eraseAll(2, 0, 60);
            Check.due("none any more", x.joined(4, 5, 3), -1);
        });
        document.test(ILLEGAL + "key, valid or record is out of range", () -> {
            for (int far : FAR) {
                Refused.illegal("all are " + far, Starts::full, x -> x.joined(far, far, far));
                Refused.illegal("record is " + far, Starts::empty, x -> x.joined(0, 0, far));
            }
            Refused.illegal("the key, and later", Starts::full, x -> x.joined(8, 0, 3));
            Refused.illegal("the key below 0, and later", Starts::full, x -> x.joined(-1, 0, 59));
            Refused.illegal("valid, and later", Starts::full, x -> x.joined(0, 60, 3));
            Refused.illegal("valid below 0, and later", Starts::full, x -> x.joined(0, -1, 59));
        });
        document.test(LATER, () -> Refused.later("joined", (x, record) -> x.joined(7, 59, record)));
        document.allTested();
    }

    private static void joinedValue() {
        Counted x = Starts.some();
        Check.due("the first day", x.joined(4, 5, 3), 10);
        Check.due("the last day of its first value", x.joined(4, 9, 3), 10);
        Check.due("the first day of its second value", x.joined(4, 10, 3), 20);
        Check.due("the last day", x.joined(4, 14, 3), 20);
        x.put(0, 4, 70, 0, 60);
        x.put(1, 4, 4, 9, 10);
        Check.due("refers to the key of its own number", x.joined(4, 9, 3), 70);
        x.put(1, 2, 4, 0, 60);
        Check.due("two refer to one", x.joined(2, 9, 3), 70);
        x.pass(1);
        x.put(0, 4, 71, 9, 10);
        Check.due("both follow it", x.joined(2, 9, 4) + x.joined(4, 9, 4), 142);
        Check.due("yesterday's value of yesterday's key", x.joined(4, 9, 3), 70);
    }

    // ---- 18 corrections

    private static void corrections(Sentences document) {
        document.section("Promise 18: corrections");
        document.test("Returns on how many days of record what was known about a key on a day of "
                + "validity became other than on the day of record before.",
                QuestionEdgeTests::correctionsOfAllKinds);
        document.test(TABLE, () -> {
            Counted x = Starts.ends();
            Check.due("table 0", x.corrections(0, 0, 0, 0, 2), 0);
            Check.due("table 1", x.corrections(1, 0, 0, 0, 2), 1);
            Refused.outside("table", 0, 1, Starts::ends,
                    (y, table) -> y.corrections(table, 0, 0, 0, 2));
        });
        document.test(KEY, () -> {
            Counted x = Starts.ends();
            Check.due("the first key", x.corrections(0, 0, 59, 0, 2), 0);
            Check.due("the last key", x.corrections(0, 7, 59, 0, 2), 1);
            Check.due("the first key of table 1", x.corrections(1, 0, 9, 0, 2), 1);
            Check.due("the last key of table 1", x.corrections(1, 7, 9, 0, 2), 0);
            Refused.outside("key", 0, 7, Starts::ends, (y, key) -> y.corrections(0, key, 0, 0, 2));
            Refused.outside("key of 1", 0, 7, Starts::full,
                    (y, key) -> y.corrections(1, key, 0, 0, 2));
        });
        document.test(VALID, () -> {
            Counted x = Starts.ends();
            Check.due("the first day", x.corrections(1, 0, 0, 0, 2), 1);
            Check.due("the last that changed", x.corrections(1, 0, 9, 0, 2), 1);
            Check.due("the day behind", x.corrections(1, 0, 10, 0, 2), 0);
            Check.due("the day before the last", x.corrections(0, 7, 58, 0, 2), 0);
            Check.due("the last day", x.corrections(0, 7, 59, 0, 2), 1);
            Refused.outside("valid", 0, 59, Starts::ends,
                    (y, day) -> y.corrections(0, 0, day, 0, 2));
        });
        document.test("- `from`: the day of record behind which it is looked",
                QuestionEdgeTests::correctionsFrom);
        document.test("- `to`: the last day of record that is looked at, from or later",
                QuestionEdgeTests::correctionsTo);
        document.test("Returns the number of days of record from from + 1 to to on which the value "
                + "differs from that of the day before.", QuestionEdgeTests::correctionsAnswer);
        document.test(ILLEGAL + "table, key, valid, from or to is out of range, or to is less than "
                + "from", QuestionEdgeTests::correctionsIllegal);
        document.test("Throws `IndexOutOfBoundsException` if to is later than today", () -> {
            Refused.later("corrections", (x, to) -> x.corrections(0, 0, 0, 0, to));
            Refused.outOfBounds("from and to", Starts::full, x -> x.corrections(0, 0, 0, 3, 3));
            Refused.outOfBounds("far later", Starts::full, x -> x.corrections(0, 0, 0, 58, 59));
            Refused.outOfBounds("from today", Starts::full, x -> x.corrections(0, 0, 0, 2, 3));
        });
        document.allTested();
    }

    /** What is known of key 1 of table 0 on day 30: another value on each day of record. */
    private static Counted corrected() {
        Counted x = new Counted();
        for (int record = 0; record < 60; record++) {
            x.put(0, 1, record % 3, 30, 31);
            if (record < 59) {
                x.pass(1);
            }
        }
        return x;
    }

    private static void correctionsOfAllKinds() {
        Counted x = Starts.some();
        x.pass(1);
        x.put(0, 2, 11, 0, 1);
        x.put(0, 2, 11, 20, 21);
        x.erase(0, 2, 1, 2);
        x.put(0, 2, 12, 2, 3);
        x.put(0, 2, 10, 2, 3);
        Check.due("another value", x.corrections(0, 2, 0, 3, 4), 1);
        Check.due("a value where there was none", x.corrections(0, 2, 20, 3, 4), 1);
        Check.due("none where there was a value", x.corrections(0, 2, 1, 3, 4), 1);
        Check.due("undone on the same day", x.corrections(0, 2, 2, 3, 4), 0);
        Check.due("a day beside", x.corrections(0, 2, 3, 3, 4), 0);
        Check.due("the other table", x.corrections(1, 2, 0, 3, 4), 0);
        x.pass(1);
        x.restore(0, 2, 0);
        Check.due("back again", x.corrections(0, 2, 0, 0, 5), 2);
        Check.due("0 is another than none", zeroCorrections(), 2);
    }

    private static int zeroCorrections() {
        Counted x = new Counted();
        x.pass(1);
        x.put(0, 0, 0, 0, 1);
        x.pass(1);
        x.erase(0, 0, 0, 1);
        return x.corrections(0, 0, 0, 0, 2);
    }

    private static void correctionsFrom() {
        Counted x = corrected();
        for (int from = 0; from < 60; from++) {
            Check.due("from " + from, x.corrections(0, 1, 30, from, 59), 59 - from);
        }
        Counted y = Starts.some();
        Check.due("from itself is not looked at", y.corrections(1, 4, 5, 3, 3), 0);
        Check.due("the day behind it is", y.corrections(1, 4, 5, 2, 3), 1);
        Refused.outside("from", 0, 59, Starts::some, (z, from) -> z.corrections(0, 2, 0, from, 3));
        Refused.outside("from, at last,", 0, 59, Starts::last,
                (z, from) -> z.corrections(0, 2, 0, from, 59));
        Refused.outside("from and to", 0, 59, Starts::last,
                (z, day) -> z.corrections(0, 2, 0, day, day));
    }

    private static void correctionsTo() {
        Counted x = corrected();
        for (int to = 0; to < 60; to++) {
            Check.due("to " + to, x.corrections(0, 1, 30, 0, to), to);
            Check.due("from itself to " + to, x.corrections(0, 1, 30, to, to), 0);
        }
        Counted y = Starts.some();
        Check.due("to is looked at", y.corrections(1, 4, 14, 0, 3), 1);
        Check.due("the day behind it is not", y.corrections(1, 4, 14, 0, 2), 0);
        Refused.records("to", Starts::some, (z, to) -> z.corrections(0, 2, 0, 0, to));
        Refused.records("to, at last", Starts::last, (z, to) -> z.corrections(0, 2, 0, 0, to));
        for (int from : new int[] {1, 2, 3, 59}) {
            Refused.illegal("to is one less than " + from, Starts::last,
                    z -> z.corrections(0, 2, 0, from, from - 1));
        }
    }

    private static void correctionsAnswer() {
        Check.due("none in empty tables", Starts.empty().corrections(0, 0, 0, 0, 0), 0);
        Check.due("none in full tables", Starts.full().corrections(1, 7, 59, 0, 2), 0);
        Check.due("as many as can be", corrected().corrections(0, 1, 30, 0, 59), 59);
        Counted x = Starts.empty();
        x.pass(20);
        x.put(0, 0, 5, 0, 60);
        x.pass(39);
        x.erase(0, 0, 0, 60);
        Check.due("what passes is no correction", x.corrections(0, 0, 59, 20, 58), 0);
        Check.due("on the day itself", x.corrections(0, 0, 59, 19, 20), 1);
        Check.due("not on the days before", x.corrections(0, 0, 59, 0, 19), 0);
        Check.due("on the last day of record", x.corrections(0, 0, 59, 58, 59), 1);
        Check.due("both", x.corrections(0, 0, 0, 0, 59), 2);
    }

    private static void correctionsIllegal() {
        for (int far : FAR) {
            Refused.illegal("all are " + far, Starts::full,
                    x -> x.corrections(far, far, far, far, far));
        }
        Refused.illegal("to far below from", Starts::last,
                x -> x.corrections(0, 0, 0, 59, Integer.MIN_VALUE));
        Refused.illegal("to 0 from 59", Starts::last, x -> x.corrections(0, 0, 0, 59, 0));
        Refused.illegal("both later, turned round", Starts::some,
                x -> x.corrections(0, 0, 0, 9, 8));
        Refused.illegal("from later, to today", Starts::some, x -> x.corrections(0, 0, 0, 4, 3));
        Refused.illegal("the table, and later", Starts::some, x -> x.corrections(2, 0, 0, 0, 4));
        Refused.illegal("the key, and later", Starts::some, x -> x.corrections(0, -1, 0, 0, 4));
        Refused.illegal("valid, and later", Starts::some, x -> x.corrections(0, 0, 60, 0, 59));
        Refused.illegal("from, and later", Starts::some, x -> x.corrections(0, 0, 0, -1, 4));
        Refused.illegal("from 60 on", Starts::some, x -> x.corrections(0, 0, 0, 60, 60));
    }

    // ---- 19 longest

    private static void longest(Sentences document) {
        document.section("Promise 19: longest");
        document.test("Returns the longest time that a key had one value throughout, as it is "
                + "known on a day of record.", QuestionEdgeTests::longestTime);
        document.test(TABLE, () -> {
            Counted x = Starts.ends();
            Check.due("table 0", x.longest(0, 7, 2), 20);
            Check.due("table 1", x.longest(1, 7, 2), 24);
            Refused.outside("table", 0, 1, Starts::ends, (y, table) -> y.longest(table, 7, 2));
        });
        document.test(KEY, () -> {
            Counted x = Starts.ends();
            Check.due("the first key", x.longest(0, 0, 2), 60);
            Check.due("the last key", x.longest(0, 7, 2), 20);
            Check.due("the first key of table 1", x.longest(1, 0, 2), 50);
            Check.due("the last key of table 1", x.longest(1, 7, 2), 24);
            Check.due("the keys beside them", x.longest(0, 1, 2) + x.longest(1, 6, 2), 0);
            Refused.outside("key", 0, 7, Starts::ends, (y, key) -> y.longest(0, key, 2));
            Refused.outside("key of 1", 0, 7, Starts::full, (y, key) -> y.longest(1, key, 0));
        });
        document.test(RECORD, () -> {
            Counted x = new Counted();
            for (int record = 0; record < 60; record++) {
                x.put(0, 3, 1, record, record + 1);
                Check.due("today " + record, x.longest(0, 3, record), record + 1);
                if (record < 59) {
                    x.pass(1);
                }
            }
            for (int record = 0; record < 60; record++) {
                Check.due("day " + record + " at last", x.longest(0, 3, record), record + 1);
            }
            Refused.recordsOfFull("longest", (y, record) -> y.longest(1, 7, record));
        });
        document.test("Returns the greatest number of days of a run, 0 if there is none.",
                QuestionEdgeTests::longestAnswer);
        document.test(ILLEGAL + "table, key or record is out of range", () -> {
            for (int far : FAR) {
                Refused.illegal("all are " + far, Starts::full, x -> x.longest(far, far, far));
                Refused.illegal("record is " + far, Starts::empty, x -> x.longest(0, 0, far));
            }
            Refused.illegal("the table, and later", Starts::full, x -> x.longest(2, 0, 3));
            Refused.illegal("the table below 0, and later", Starts::full,
                    x -> x.longest(-1, 0, 59));
            Refused.illegal("the key, and later", Starts::full, x -> x.longest(0, 8, 3));
            Refused.illegal("the key below 0, and later", Starts::full, x -> x.longest(1, -1, 59));
        });
        document.test(LATER,
                () -> Refused.later("longest", (x, record) -> x.longest(0, 0, record)));
        document.allTested();
    }

    private static void longestTime() {
        Counted x = Starts.some();
        Check.due("two of ten days", x.longest(0, 2, 3), 10);
        x.put(0, 2, 20, 9, 10);
        Check.due("the second is longer", x.longest(0, 2, 3), 11);
        Check.due("as known before", x.longest(0, 2, 2), 10);
        x.put(0, 2, 10, 9, 12);
        Check.due("the first is longer", x.longest(0, 2, 3), 12);
        x.put(0, 2, 10, 12, 20);
        Check.due("they are one", x.longest(0, 2, 3), 20);
        x.erase(0, 2, 3, 4);
        Check.due("a gap parts them", x.longest(0, 2, 3), 16);
        Check.due("the reference", x.longest(1, 4, 3), 10);
    }

    private static void longestAnswer() {
        Check.due("no run in empty tables", Starts.empty().longest(1, 7, 0), 0);
        Check.due("all days of full tables", Starts.full().longest(1, 7, 2), 60);
        Check.due("one day, sixty times", Starts.sixtyRuns().longest(0, 0, 0), 1);
        Counted x = Starts.some();
        Check.due("none before it was put", x.longest(1, 4, 2), 0);
        x.put(0, 0, 0, 0, 1);
        Check.due("the first day alone", x.longest(0, 0, 3), 1);
        x.put(0, 0, 1, 58, 60);
        Check.due("the last two days", x.longest(0, 0, 3), 2);
        x.put(0, 0, 0, 1, 3);
        Check.due("the first three days", x.longest(0, 0, 3), 3);
        x.put(0, 0, 0, 0, 59);
        Check.due("all days but the last", x.longest(0, 0, 3), 59);
        x.erase(0, 0, 0, 60);
        Check.due("none any more", x.longest(0, 0, 3), 0);
    }

    // ---- 20 average

    private static void average(Sentences document) {
        document.section("Promise 20: average");
        document.test("Returns the average of the values of a key of table 0 over its days of "
                + "validity.", () -> {
            Counted x = Starts.some();
            Check.due("of two spans of the same length", x.average(2, 3), 15);
            x.put(0, 2, 20, 20, 50);
            Check.due("each day counts", x.average(2, 3), 18);
            Check.due("as known before", x.average(2, 2), 15);
            x.erase(0, 2, 0, 1);
            Check.due("days without a value do not", x.average(2, 3), 890f / 49f);
        });
        document.test("- `key`: 0 to 7, of table 0", () -> {
            Counted x = Starts.full();
            for (int key = 0; key < 8; key++) {
                Check.due("key " + key, x.average(key, 2), 90 + key);
            }
            Refused.outside("key", 0, 7, Starts::full, (y, key) -> y.average(key, 2));
        });
        document.test(RECORD, () -> {
            Counted x = new Counted();
            for (int record = 0; record < 60; record++) {
                x.put(0, 3, record, 0, 60);
                Check.due("today " + record, x.average(3, record), record);
                if (record < 59) {
                    x.pass(1);
                }
            }
            for (int record = 0; record < 60; record++) {
                Check.due("day " + record + " at last", x.average(3, record), record);
            }
            Refused.recordsOfFull("average", (y, record) -> y.average(7, record));
        });
        document.test("Returns the sum of the values of all days on which it has one, as a float, "
                + "divided by the number of these days, as a float.",
                QuestionEdgeTests::averageAnswer);
        document.test(ILLEGAL + "key or record is out of range", () -> {
            for (int far : FAR) {
                Refused.illegal("both are " + far, Starts::full, x -> x.average(far, far));
                Refused.illegal("record " + far + " of none", Starts::empty,
                        x -> x.average(0, far));
            }
            Refused.illegal("the key, and later", Starts::full, x -> x.average(8, 3));
            Refused.illegal("the key below 0, and later", Starts::full, x -> x.average(-1, 59));
            Refused.illegal("the key, and none", Starts::empty, x -> x.average(8, 0));
            Refused.illegal("day 60 of none, at last", Starts::last, x -> x.average(0, 60));
        });
        document.test(LATER, () -> {
            Refused.later("average", (x, record) -> x.average(0, record));
            Refused.outOfBounds("later, and none today", Starts::some, x -> x.average(5, 4));
        });
        document.test("Throws `IllegalStateException` if there are none",
                QuestionEdgeTests::averageOfNone);
        document.allTested();
    }

    private static void averageAnswer() {
        Counted x = Starts.some();
        x.put(0, 0, 0, 59, 60);
        Check.due("0 on the last day", x.average(0, 3), 0);
        x.put(0, 0, 99, 0, 1);
        Check.due("and 99 on the first", x.average(0, 3), 49.5);
        x.put(0, 0, 1, 1, 2);
        Check.due("not a whole number", x.average(0, 3), 100f / 3f);
        x.put(0, 0, 99, 0, 60);
        Check.due("the greatest sum of all", x.average(0, 3), 99);
        x.put(0, 0, 0, 59, 60);
        Check.due("one day less of it", x.average(0, 3), 5841f / 60f);
        x.put(0, 0, 0, 0, 60);
        Check.due("the least sum of all", x.average(0, 3), 0);
        x.put(0, 1, 1, 0, 3);
        x.put(0, 1, 0, 3, 7);
        Check.due("below 1", x.average(1, 3), 3f / 7f);
        Check.due("the last key alone changes", Starts.ends().average(7, 2), 1420f / 60f);
        Check.due("as it was", Starts.ends().average(7, 0), 1400f / 60f);
    }

    private static void averageOfNone() {
        for (int key = 0; key < 8; key++) {
            int asked = key;
            Refused.impossible("in empty tables", Starts::empty, x -> x.average(asked, 0));
        }
        Refused.impossible("a key of table 1 has some", Starts::some, x -> x.average(4, 3));
        Refused.impossible("another key has some", Starts::some, x -> x.average(3, 3));
        Supplier<Counted> late = Starts.then(Starts::last, x -> x.put(0, 5, 1, 59, 60));
        Check.due("one value alone", late.get().average(5, 59), 1);
        Refused.impossible("none the day before", late, x -> x.average(5, 58));
        Refused.impossible("none at first", late, x -> x.average(5, 0));
        Supplier<Counted> gone = Starts.then(Starts::full, x -> x.eraseAll(7, 0, 60));
        Refused.impossible("none any more", gone, x -> x.average(7, 2));
        Check.due("some the day before", gone.get().average(7, 1), 97);
    }
}
