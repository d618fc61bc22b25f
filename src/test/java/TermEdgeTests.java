import java.io.IOException;
import java.util.LinkedHashMap;
import java.util.Map;
import java.util.function.Supplier;

/** What the document's first sections say of all calls, sentence by sentence, at its ends. */
public final class TermEdgeTests {
    public static void main(String[] args) throws IOException {
        Sentences document = new Sentences(args[1]);
        document.section("What it is");
        document.test("An object is used for at most 512 calls after it has been made",
                TermEdgeTests::allCalls);
        document.section("Terms");
        time(document);
        ranges(document);
        values(document);
        references(document);
        runsAndRows(document);
        exceptions(document);
        Check.end("TermEdgeTests");
    }

    // ---- how long an object is used

    private static void allCalls() {
        Counted x = new Counted();
        for (int call = 0; call < 511; call++) {
            Check.due("change " + call, x.put(0, 0, call % 100, 0, 60), 60);
        }
        Check.due("the 512th call asks", x.run(0, 0, 0, 0), 6010);
        Counted y = new Counted();
        for (int call = 0; call < 511; call++) {
            int day = call % 60;
            Check.due("change of day " + day, y.put(0, 7, call / 60, day, day + 1), 1);
        }
        Check.due("the 512th call changes", y.eraseAll(7, 0, 60), 60);
        Counted z = Starts.allRows();
        while (z.left() > 2) {
            z.put(0, 7, z.left() % 2, 0, 60);
        }
        Check.due("the 511th call restores", z.restore(0, 0, 0), 60);
        Check.due("the 512th asks for a row of 3540", z.rowTo(0, 0, 3539), -1);
        Counted w = Starts.last();
        while (w.left() > 1) {
            Check.impossible("a call that is refused counts, too", () -> w.pass(1));
        }
        Check.due("the 512th asks for the first day", w.run(0, 2, 0, 1), 102020);
    }

    // ---- the two times

    private static void time(Sentences document) {
        document.test("What is true for which days can be changed at any time, for days back and "
                + "forth;", () -> {
            Counted x = new Counted();
            for (int today = 0; today < 60; today++) {
                Check.due("the first day", x.put(0, 1, today + 1, 0, 1), 1);
                Check.due("the last day", x.put(0, 1, today + 1, 59, 60), 1);
                Check.due("today", x.put(0, 2, 1, today, today + 1), 1);
                Check.due("they are known", x.value(0, 1, 59, today), today + 1);
                if (today < 59) {
                    x.pass(1);
                }
            }
            Check.due("the first day as known at first", x.value(0, 1, 0, 0), 1);
        });
        document.test("nothing that was recorded is forgotten, so that it can be asked what was "
                + "known on any day about any other day.", TermEdgeTests::nothingIsForgotten);
        document.test("Today is a day of record, at first 0, and goes on by calls.", () -> {
            Counted x = new Counted();
            Check.due("at first", x.today(), 0);
            Check.answers("it is a day of record", () -> x.keys(0, 0, 0));
            Check.due("goes on", x.pass(58), 58);
            Check.answers("is a day of record then", () -> x.keys(0, 0, 58));
            Check.outOfBounds("the next is none yet", () -> x.keys(0, 0, 59));
            Check.due("goes on to the last", x.pass(1), 59);
            Check.answers("the last day is a day of record then", () -> x.keys(0, 0, 59));
        });
        document.test("what was known on that day of record, at its end, about the key on that day "
                + "of validity.", () -> {
            Counted x = new Counted();
            x.put(0, 0, 1, 0, 60);
            x.put(0, 0, 2, 0, 60);
            Check.due("the last change of the day", x.value(0, 0, 0, 0), 2);
            x.pass(1);
            x.put(0, 0, 3, 0, 60);
            x.erase(0, 0, 0, 60);
            Check.due("of day 0 on day 1", x.value(0, 0, 59, 0), 2);
            Check.due("of day 1 on day 1", x.value(0, 0, 59, 1), -1);
            x.put(0, 0, 4, 0, 60);
            x.pass(58);
            Check.due("of day 1 on the last day", x.value(0, 0, 59, 1), 4);
            Check.due("what was between is no row", x.rows(0, 0), 2);
        });
        document.test("A change is made today; it changes what is known today, and on all later "
                + "days of record, until it is changed again.", TermEdgeTests::untilChangedAgain);
    }

    private static void nothingIsForgotten() {
        for (int valid : new int[] {0, 1, 30, 58, 59}) {
            Counted x = new Counted();
            for (int record = 0; record < 60; record++) {
                x.put(0, 7, record, valid, valid + 1);
                if (record < 59) {
                    x.pass(1);
                }
            }
            x.eraseAll(7, 0, 60);
            for (int record = 0; record < 59; record++) {
                Check.due("on " + record + " about " + valid, x.value(0, 7, valid, record), record);
                Check.due("as a run", x.longest(0, 7, record), 1);
                Check.due("as a row", x.rowFrom(0, 7, record), record);
            }
            Check.due("lost on the last day", x.value(0, 7, valid, 59), -1);
        }
    }

    private static void untilChangedAgain() {
        Counted x = new Counted();
        x.pass(10);
        x.put(0, 7, 5, 59, 60);
        x.pass(20);
        x.put(0, 7, 6, 59, 60);
        x.pass(29);
        x.erase(0, 7, 59, 60);
        for (int record = 0; record < 60; record++) {
            int later = record < 59 ? 6 : -1;
            int due = record < 10 ? -1 : record < 30 ? 5 : later;
            Check.due("on day " + record, x.value(0, 7, 59, record), due);
            Check.due("keys on day " + record, x.keys(0, 59, record), due < 0 ? 0 : 128);
            Check.due("runs on day " + record, x.runs(0, 7, record), due < 0 ? 0 : 1);
        }
        Check.due("rows", x.rows(0, 7), 2);
        Check.due("the first row's end", x.rowTo(0, 7, 0), 30);
        Check.due("the second row's end", x.rowTo(0, 7, 1), 59);
    }

    // ---- ranges

    private static Map<String, Refused.WithOne> callsWithTable() {
        Map<String, Refused.WithOne> calls = new LinkedHashMap<>();
        calls.put("put", (x, table) -> x.put(table, 0, 7, 0, 60));
        calls.put("erase", (x, table) -> x.erase(table, 1, 0, 60));
        calls.put("restore", (x, table) -> x.restore(table, 0, 2));
        calls.put("value", (x, table) -> x.value(table, 0, 0, 2));
        calls.put("keys", (x, table) -> x.keys(table, 0, 2));
        calls.put("runs", (x, table) -> x.runs(table, 0, 2));
        calls.put("run", (x, table) -> x.run(table, 0, 2, 0));
        calls.put("rows", (x, table) -> x.rows(table, 0));
        calls.put("rowRun", (x, table) -> x.rowRun(table, 0, 0));
        calls.put("rowFrom", (x, table) -> x.rowFrom(table, 0, 0));
        calls.put("rowTo", (x, table) -> x.rowTo(table, 0, 0));
        calls.put("corrections", (x, table) -> x.corrections(table, 0, 0, 0, 2));
        calls.put("longest", (x, table) -> x.longest(table, 0, 2));
        return calls;
    }

    private static Map<String, Refused.WithOne> callsWithKey() {
        Map<String, Refused.WithOne> calls = new LinkedHashMap<>();
        calls.put("put", (x, key) -> x.put(0, key, 7, 0, 60));
        calls.put("put in 1", (x, key) -> x.put(1, key, 7, 0, 60));
        calls.put("erase", (x, key) -> x.erase(1, key, 0, 60));
        calls.put("eraseAll", (x, key) -> x.eraseAll(key, 0, 60));
        calls.put("restore", (x, key) -> x.restore(0, key, 2));
        calls.put("value", (x, key) -> x.value(0, key, 0, 2));
        calls.put("joined", (x, key) -> x.joined(key, 0, 2));
        calls.put("runs", (x, key) -> x.runs(0, key, 2));
        calls.put("run", (x, key) -> x.run(0, key, 2, 0));
        calls.put("joinedRuns", (x, key) -> x.joinedRuns(key, 2));
        calls.put("rows", (x, key) -> x.rows(0, key));
        calls.put("rowRun", (x, key) -> x.rowRun(0, key, 0));
        calls.put("rowFrom", (x, key) -> x.rowFrom(0, key, 0));
        calls.put("rowTo", (x, key) -> x.rowTo(0, key, 0));
        calls.put("corrections", (x, key) -> x.corrections(0, key, 0, 0, 2));
        calls.put("longest", (x, key) -> x.longest(0, key, 2));
        calls.put("average", (x, key) -> x.average(key, 2));
        return calls;
    }

    /** Asked on day 59, on which each day is a day of record. */
    private static Map<String, Refused.WithOne> callsWithDay() {
        Map<String, Refused.WithOne> calls = new LinkedHashMap<>();
        calls.put("put, from", (x, day) -> x.put(0, 0, 7, day, 60));
        calls.put("put, last day", (x, day) -> x.put(0, 0, 7, day, day + 1));
        calls.put("erase, from", (x, day) -> x.erase(1, 0, day, 60));
        calls.put("erase, last day", (x, day) -> x.erase(1, 0, day, day + 1));
        calls.put("eraseAll, from", (x, day) -> x.eraseAll(0, day, 60));
        calls.put("eraseAll, last day", (x, day) -> x.eraseAll(0, day, day + 1));
        calls.put("restore", (x, day) -> x.restore(0, 0, day));
        calls.put("value, valid", (x, day) -> x.value(0, 0, day, 2));
        calls.put("value, record", (x, day) -> x.value(0, 0, 0, day));
        calls.put("keys, valid", (x, day) -> x.keys(0, day, 2));
        calls.put("keys, record", (x, day) -> x.keys(0, 0, day));
        calls.put("joined, valid", (x, day) -> x.joined(0, day, 2));
        calls.put("joined, record", (x, day) -> x.joined(0, 0, day));
        calls.put("runs", (x, day) -> x.runs(0, 0, day));
        calls.put("run", (x, day) -> x.run(0, 0, day, 0));
        calls.put("joinedRuns", (x, day) -> x.joinedRuns(0, day));
        calls.put("corrections, valid", (x, day) -> x.corrections(0, 0, day, 0, 2));
        calls.put("corrections, from", (x, day) -> x.corrections(0, 0, 0, day, 59));
        calls.put("corrections, to", (x, day) -> x.corrections(0, 0, 0, 0, day));
        calls.put("longest", (x, day) -> x.longest(0, 0, day));
        calls.put("average", (x, day) -> x.average(0, day));
        return calls;
    }

    private static void allInRange(Map<String, Refused.WithOne> calls, int last) {
        Supplier<Counted> start = Starts.then(Starts::full, x -> {
            x.pass(57);
            x.erase(1, 6, 0, 60);
        });
        calls.forEach((name, call) -> {
            for (int argument = 0; argument <= last; argument++) {
                int taken = argument;
                Check.answers(name + " takes " + taken, () -> call.on(start.get(), taken));
            }
            Refused.outside(name, 0, last, start, call);
        });
    }

    private static void ranges(Sentences document) {
        document.test("The tables are 0 and 1.", () -> allInRange(callsWithTable(), 1));
        document.test("Each has the keys 0 to 7.", () -> allInRange(callsWithKey(), 7));
        document.test("Days are 0 to 59, both days of validity and days of record.",
                () -> allInRange(callsWithDay(), 59));
    }

    // ---- values

    private static void values(Sentences document) {
        document.test("A value is from 0 to 99 in table 0, and from 0 to 7 in table 1, where it "
                + "names a key of table 0, to which it refers.", TermEdgeTests::allValues);
        document.test("At first there are no values.", () -> {
            Counted x = new Counted();
            for (int day = 0; day < 60; day++) {
                Check.due("table 0 on day " + day, x.keys(0, day, 0), 0);
                Check.due("table 1 on day " + day, x.keys(1, day, 0), 0);
            }
            for (int key = 0; key < 8; key++) {
                Check.due("table 0 loses none", x.erase(0, key, 0, 60), 0);
                Check.due("table 1 loses none", x.erase(1, key, 0, 60), 0);
            }
            x.pass(59);
            for (int key = 0; key < 8; key++) {
                Check.due("no rows", x.rows(0, key) + x.rows(1, key), 0);
            }
        });
    }

    private static void allValues() {
        Counted x = Starts.full();
        for (int value = 0; value < 100; value++) {
            x.put(0, 7, value, 0, 60);
            Check.due("value " + value, x.value(0, 7, 59, 2), value);
            Check.due("what refers to it follows", x.joined(0, 59, 2), value);
        }
        for (int value = 0; value < 8; value++) {
            x.put(1, 0, value, 0, 60);
            Check.due("reference " + value, x.value(1, 0, 59, 2), value);
            Check.due("names the key", x.joined(0, 59, 2), value == 7 ? 99 : 90 + value);
        }
        Refused.outside("a value", 0, 99, Starts::full, (y, value) -> y.put(0, 0, value, 0, 1));
        Refused.outside("a reference", 0, 7, Starts::full, (y, value) -> y.put(1, 0, value, 0, 1));
    }

    // ---- references

    private static void references(Sentences document) {
        document.test("References between the tables must hold on every day", () -> {
            for (int day = 0; day < 60; day++) {
                int at = day;
                String what = "day " + day;
                Supplier<Counted> held = Starts.then(Starts::some, x -> {
                    x.put(0, 6, 1, at, at + 1);
                    x.put(1, 0, 6, at, at + 1);
                });
                Refused.impossible(what, held, x -> x.erase(0, 6, at, at + 1));
                Refused.impossible(what + " of all", held, x -> x.erase(0, 6, 0, 60));
                Refused.impossible(what + " restored", held, x -> x.restore(0, 6, 0));
                Refused.impossible(what + " and more", held, x -> x.put(1, 0, 6, 0, 60));
            }
        });
        document.test("On each day of validity on which a key of table 1 has a value, the key of "
                + "table 0 to which it refers must have a value today, too.", () -> {
            Counted x = Starts.full();
            for (int day = 0; day < 60; day++) {
                int at = day;
                Check.impossible("all keys, day " + at, () -> x.erase(0, at % 8, at, at + 1));
            }
            x.eraseAll(3, 0, 60);
            Check.due("known on day 1", x.value(0, 3, 0, 1), 93);
            Check.impossible("today it is not", () -> x.put(1, 4, 3, 0, 1));
            x.pass(1);
            Check.due("yesterday's references do not count", x.erase(0, 3, 0, 60), 0);
            x.put(0, 3, 0, 0, 1);
            Check.due("from today on it is again", x.put(1, 4, 3, 0, 1), 1);
            Check.due("a reference may go from it", x.put(1, 4, 5, 0, 1), 1);
            Check.due("then it may be lost", x.erase(0, 3, 0, 1), 1);
            Check.impossible("but not the key that it went to", () -> x.erase(0, 5, 0, 1));
        });
        document.test("A change after which that would not hold is not possible.", () -> {
            Refused.impossible("put", Starts::some, x -> x.put(1, 0, 2, 0, 21));
            Refused.impossible("erase", Starts::some, x -> x.erase(0, 2, 0, 6));
            Supplier<Counted> held = Starts.then(Starts::last, x -> {
                x.put(0, 5, 1, 59, 60);
                x.put(1, 7, 5, 59, 60);
            });
            Refused.impossible("restore", held, x -> x.restore(0, 5, 58));
            Check.due("eraseAll is, as no reference is left", held.get().eraseAll(5, 0, 60), 2);
        });
    }

    // ---- runs and rows

    private static void runsAndRows(Sentences document) {
        document.test("neighbouring days with the same value are always one run", () -> {
            Counted x = new Counted();
            for (int day = 0; day < 60; day += 2) {
                x.put(0, 0, 5, day, day + 1);
            }
            Check.due("every second day", x.runs(0, 0, 0), 30);
            for (int day = 59; day > 0; day -= 2) {
                x.put(0, 0, 5, day, day + 1);
            }
            Check.due("the days between", x.run(0, 0, 0, 0), 6005);
            Check.due("are one run", x.runs(0, 0, 0), 1);
            x.put(0, 0, 6, 30, 31);
            Check.due("three", x.runs(0, 0, 0), 3);
            x.put(0, 0, 5, 30, 31);
            Check.due("one again", x.runs(0, 0, 0), 1);
            Check.due("and one row", x.rows(0, 0), 1);
            x.pass(1);
            x.erase(0, 0, 0, 30);
            x.restore(0, 0, 0);
            Check.due("one when restored", x.rowTo(0, 0, 0), -1);
        });
        document.test("The runs of a key on a day of record are the spans of neighbouring days of "
                + "validity with the same value, as long as possible, told by their first day, the "
                + "day behind their last day, and the value.", () -> {
            Counted x = Starts.sixtyRuns();
            x.put(0, 0, 0, 0, 1);
            Check.due("the first two days", x.run(0, 0, 0, 0), 200);
            x.put(0, 0, 99, 59, 60);
            Check.due("the last two days", x.run(0, 0, 0, 57), 586099);
            Check.due("runs", x.runs(0, 0, 0), 58);
        });
        document.test("(The day behind may be 60.)", () -> {
            Counted x = Starts.full();
            Check.due("of all days", x.run(1, 7, 2, 0), 6000);
            x.put(0, 0, 4, 59, 60);
            Check.due("of the last day alone", x.run(0, 0, 2, 1), 596004);
            Check.due("as a row", x.rowRun(0, 0, 2), 596004);
            Check.due("of a row of all days", x.rowRun(0, 0, 0), 6090);
            Check.due("59 is another", x.run(0, 0, 2, 0), 5990);
        });
        document.test("A row of a key is a run together with a span of neighbouring days of "
                + "record, as long as possible, on each of which this was a run of the key.",
                TermEdgeTests::rowsAreSpans);
        document.test("The rows of a key are in the order of their first days of record, and with "
                + "the same one, of their first days of validity.", TermEdgeTests::rowsInOrder);
    }

    private static void rowIs(Counted x, int row, int run, int from, int to) {
        Check.due("row " + row + "'s run", x.rowRun(0, 3, row), run);
        Check.due("row " + row + "'s first day", x.rowFrom(0, 3, row), from);
        Check.due("row " + row + "'s day behind", x.rowTo(0, 3, row), to);
    }

    private static void rowsAreSpans() {
        Counted x = new Counted();
        x.put(0, 3, 1, 0, 60);
        x.pass(1);
        x.put(0, 3, 2, 59, 60);
        x.pass(1);
        x.put(0, 3, 1, 59, 60);
        x.pass(56);
        x.put(0, 3, 2, 59, 60);
        x.pass(1);
        Check.due("rows", x.rows(0, 3), 6);
        rowIs(x, 0, 6001, 0, 1);
        rowIs(x, 1, 5901, 1, 2);
        rowIs(x, 2, 596002, 1, 2);
        rowIs(x, 3, 6001, 2, 58);
        rowIs(x, 4, 5901, 58, -1);
        rowIs(x, 5, 596002, 58, -1);
        x = Starts.then(Starts::empty, y -> y.put(0, 3, 1, 0, 60)).get();
        for (int day = 1; day < 60; day++) {
            x.pass(1);
            x.erase(0, 3, 0, 60);
            x.put(0, 3, 1, 0, 60);
        }
        Check.due("one row of all days of record", x.rows(0, 3), 1);
        rowIs(x, 0, 6001, 0, -1);
    }

    private static void rowsInOrder() {
        Counted x = new Counted();
        x.put(0, 3, 1, 50, 60);
        x.put(0, 3, 2, 40, 50);
        x.pass(59);
        x.put(0, 3, 3, 20, 21);
        x.put(0, 3, 4, 0, 1);
        x.put(0, 3, 5, 59, 60);
        Check.due("rows", x.rows(0, 3), 6);
        rowIs(x, 0, 405002, 0, -1);
        rowIs(x, 1, 506001, 0, 59);
        rowIs(x, 2, 104, 59, -1);
        rowIs(x, 3, 202103, 59, -1);
        rowIs(x, 4, 505901, 59, -1);
        rowIs(x, 5, 596005, 59, -1);
    }

    // ---- exceptions

    private static void exceptions(Sentences document) {
        document.test("IllegalArgumentException is thrown for a table, key, day, value or span "
                + "that is out of range, IndexOutOfBoundsException for a row, run or day of record "
                + "that does not exist (yet), and IllegalStateException if a call is not possible "
                + "now.",
                TermEdgeTests::eachException);
        document.test("If several apply, IllegalArgumentException goes first, then "
                + "IndexOutOfBoundsException.", TermEdgeTests::severalApply);
        document.test("A call that throws an exception changes nothing.", () -> {
            Counted x = new Counted();
            Counted y = new Counted();
            for (int step = 0; step < 6; step++) {
                refusedCalls(x);
                step(x, step);
                step(y, step);
            }
            refusedCalls(x);
            String asked = State.of(x);
            Check.holds("what it answers then: " + asked, asked.equals(State.of(y)));
        });
    }

    private static void step(Counted x, int step) {
        x.put(0, step % 3, 10 + step, 3 * step, 60);
        x.put(1, step % 4, step % 3, 3 * step, 40);
        x.eraseAll((step + 1) % 3, 50, 52 + step % 2);
        x.pass(step % 3 + 1);
    }

    private static void refusedCalls(Counted x) {
        Check.illegal("put", () -> x.put(0, 0, 100, 0, 60));
        Check.illegal("put, to", () -> x.put(0, 0, 1, 0, 61));
        Check.impossible("put", () -> x.put(1, 0, 7, 0, 60));
        Check.illegal("erase", () -> x.erase(1, 0, 0, 61));
        Check.illegal("eraseAll", () -> x.eraseAll(0, 30, 61));
        Check.illegal("restore", () -> x.restore(0, 0, 60));
        Check.outOfBounds("restore", () -> x.restore(0, 0, 59));
        Check.illegal("pass", () -> x.pass(60));
        Check.outOfBounds("run", () -> x.run(0, 7, 0, 0));
        Check.impossible("average", () -> x.average(7, 0));
        Check.illegal("corrections", () -> x.corrections(0, 0, 0, 1, 0));
    }

    private static void eachException() {
        Refused.illegal("a table", Starts::some, x -> x.rows(2, 0));
        Refused.illegal("a key", Starts::some, x -> x.rows(0, 8));
        Refused.illegal("a day of validity", Starts::some, x -> x.value(0, 0, 60, 0));
        Refused.illegal("a day of record", Starts::some, x -> x.value(0, 0, 0, 60));
        Refused.illegal("a value", Starts::some, x -> x.put(0, 0, 100, 0, 1));
        Refused.illegal("a span", Starts::some, x -> x.eraseAll(2, 5, 5));
        Refused.illegal("a number of days", Starts::some, x -> x.pass(60));
        Refused.outOfBounds("a row", Starts::some, x -> x.rowRun(0, 2, 2));
        Refused.outOfBounds("a row below 0", Starts::some, x -> x.rowTo(0, 2, -1));
        Refused.outOfBounds("a run", Starts::some, x -> x.run(0, 2, 3, 2));
        Refused.outOfBounds("a run below 0", Starts::some, x -> x.run(0, 2, 3, -1));
        Refused.outOfBounds("a day of record yet to come", Starts::some, x -> x.keys(0, 0, 4));
        Refused.impossible("a reference", Starts::some, x -> x.erase(0, 2, 0, 60));
        Refused.impossible("days behind the last one", Starts::some, x -> x.pass(57));
        Refused.impossible("an average of none", Starts::some, x -> x.average(4, 3));
    }

    private static void severalApply() {
        Supplier<Counted> held = Starts.then(Starts::some, x -> {
            x.put(0, 6, 1, 0, 60);
            x.put(1, 0, 6, 0, 60);
        });
        Refused.illegal("span, reference", Starts::some, x -> x.put(1, 0, 7, 0, 61));
        Refused.illegal("value, reference", Starts::some, x -> x.put(1, 0, 8, 0, 60));
        Refused.illegal("span, reference of erase", held, x -> x.erase(0, 6, 0, 61));
        Refused.illegal("table, later", held, x -> x.restore(2, 6, 4));
        Refused.illegal("record, reference", held, x -> x.restore(0, 6, 60));
        Refused.outOfBounds("later, reference", held, x -> x.restore(0, 6, 4));
        Refused.illegal("days, last day", Starts::last, x -> x.pass(60));
        Refused.illegal("no days, last day", Starts::last, x -> x.pass(0));
        Refused.illegal("valid, later", held, x -> x.value(0, 0, 60, 4));
        Refused.illegal("table, later", held, x -> x.keys(2, 0, 4));
        Refused.illegal("key, later", held, x -> x.joined(8, 0, 4));
        Refused.illegal("key, later", held, x -> x.runs(0, 8, 4));
        Refused.illegal("table, later, no run", held, x -> x.run(2, 0, 4, -1));
        Refused.illegal("record, no run", held, x -> x.run(0, 0, 60, -1));
        Refused.illegal("key, later", held, x -> x.joinedRuns(8, 4));
        Refused.illegal("table, no row", held, x -> x.rowRun(2, 0, -1));
        Refused.illegal("key, no row", held, x -> x.rowFrom(0, 8, -1));
        Refused.illegal("key below 0, no row", held, x -> x.rowTo(0, -1, 0));
        Refused.illegal("to below from, later", held, x -> x.corrections(0, 0, 0, 9, 8));
        Refused.illegal("valid, later", held, x -> x.corrections(0, 0, 60, 0, 4));
        Refused.illegal("table, later", held, x -> x.longest(2, 0, 4));
        Refused.illegal("key, later", held, x -> x.average(8, 4));
        Refused.illegal("record, none", held, x -> x.average(5, 60));
        Refused.outOfBounds("later, none", held, x -> x.average(5, 4));
    }
}
