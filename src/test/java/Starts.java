import java.util.function.Consumer;
import java.util.function.Supplier;

/** Objects to begin a test with. */
final class Starts {
    private Starts() {
    }

    static Supplier<Counted> then(Supplier<Counted> start, Consumer<Counted> calls) {
        return () -> {
            Counted x = start.get();
            calls.accept(x);
            return x;
        };
    }

    static Counted empty() {
        return new Counted();
    }

    /**
     * Today is 3. Since day 0 key 2 of table 0 has 10 on days 0 to 9 and 20 on days 10 to 19; since
     * day 3 key 4 of table 1 refers to it on days 5 to 14.
     */
    static Counted some() {
        Counted x = new Counted();
        x.put(0, 2, 10, 0, 10);
        x.put(0, 2, 20, 10, 20);
        x.pass(3);
        x.put(1, 4, 2, 5, 15);
        return x;
    }

    /**
     * Today is 2. Since day 0 each key of table 0 has 90 + key on all days, and each key of table 1
     * refers to 7 - key on all days.
     */
    static Counted full() {
        Counted x = new Counted();
        for (int key = 0; key < 8; key++) {
            x.put(0, key, 90 + key, 0, 60);
        }
        for (int key = 0; key < 8; key++) {
            x.put(1, key, 7 - key, 0, 60);
        }
        x.pass(2);
        return x;
    }

    /**
     * Today is 2, and only the first and the last key of each table have values. Known on day 0:
     * key 0 of table 0 has 10 on all days; key 7 has 20, but 30 on days 20 to 39. Key 0 of table 1
     * refers to 7 on all days; key 7 refers to 0 on days 0 to 29, to 7 on days 30 to 39.
     * Known on day 2: key 7 of table 0 has 40 on day 59, key 0 of table 1 refers to 0 on days 0 to
     * 9, and key 7 of table 1 has nothing on day 5.
     */
    static Counted ends() {
        Counted x = new Counted();
        x.put(0, 0, 10, 0, 60);
        x.put(0, 7, 20, 0, 60);
        x.put(0, 7, 30, 20, 40);
        x.put(1, 0, 7, 0, 60);
        x.put(1, 7, 0, 0, 30);
        x.put(1, 7, 7, 30, 40);
        x.pass(2);
        x.put(0, 7, 40, 59, 60);
        x.put(1, 0, 0, 0, 10);
        x.erase(1, 7, 5, 6);
        return x;
    }

    /** As some(), on the last day of record: today is 59. */
    static Counted last() {
        Counted x = some();
        x.pass(56);
        return x;
    }

    /** On day 0 key 0 of table 0 has as many runs as a key can have: 99 and 0, day by day. */
    static Counted sixtyRuns() {
        Counted x = new Counted();
        x.put(0, 0, 99, 0, 60);
        for (int day = 1; day < 60; day += 2) {
            x.put(0, 0, 0, day, day + 1);
        }
        return x;
    }

    /**
     * As sixtyRuns(), but on the odd days of record the values are 1 and 2; today is 59, and the
     * key has as many rows as a key can have, 3600. It takes 181 calls.
     */
    static Counted allRows() {
        Counted x = sixtyRuns();
        x.pass(1);
        x.put(0, 0, 1, 0, 60);
        for (int day = 1; day < 60; day += 2) {
            x.put(0, 0, 2, day, day + 1);
        }
        for (int record = 2; record < 60; record++) {
            x.pass(1);
            x.restore(0, 0, record - 2);
        }
        return x;
    }
}
