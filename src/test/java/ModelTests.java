import java.util.Random;

/** Long runs of mixed calls, each answer held against the model's; the seeds are fixed. */
public final class ModelTests {
    private static final int RUNS = 1600;
    private static final int[] EDGES = {
        -1, 0, 1, 2, 7, 8, 59, 60, 61, 99, 100, Integer.MIN_VALUE, Integer.MAX_VALUE,
    };

    private final Random random;
    private final int longPass;
    private final int span;
    private final int wrongOneIn;
    private final Counted x = new Counted();
    private final Model model = new Model();

    private ModelTests(int seed) {
        random = new Random(seed);
        longPass = seed % 3 == 0 ? 8 : 1;
        span = seed % 2 == 0 ? 60 : 12;
        wrongOneIn = seed % 5 == 0 ? 8 : 80;
    }

    public static void main(String[] args) {
        for (int seed = 1; seed <= RUNS; seed++) {
            new ModelTests(seed).mixedCalls(seed);
        }
        Check.end("ModelTests");
    }

    /** Each second run leaves more than half of its calls for asking what the others have done. */
    private void mixedCalls(int seed) {
        int kept = seed % 2 == 0 ? 4 : 300;
        while (x.left() >= kept) {
            Check.topic("seed " + seed + ", " + x.left() + " calls before the last");
            if (random.nextInt(5) < 2) {
                change();
            } else {
                question();
            }
        }
        while (x.left() >= 5) {
            Check.topic("seed " + seed + ", at the end, " + x.left() + " calls before the last");
            askForAny();
        }
    }

    // ---- arguments

    private int pick(int end) {
        boolean wrong = random.nextInt(wrongOneIn) == 0;
        return wrong ? EDGES[random.nextInt(EDGES.length)] : random.nextInt(end);
    }

    private int table() {
        return pick(2);
    }

    /** Few keys, so that calls meet one another's. */
    private int key() {
        return pick(random.nextInt(10) == 0 ? 8 : 3);
    }

    private int value(int table) {
        return table == 1 ? key() : pick(random.nextInt(10) == 0 ? 100 : 2);
    }

    private int day() {
        return pick(60);
    }

    private int record() {
        return pick(random.nextInt(20) == 0 ? 60 : model.today() + 1);
    }

    private int to(int from) {
        int to = Math.min(60, from + 1 + random.nextInt(span));
        return random.nextInt(wrongOneIn) == 0 ? EDGES[random.nextInt(EDGES.length)] : to;
    }

    // ---- calls

    /** An exception is answered as the model's number for it. */
    private static double answer(Check.Call call) {
        try {
            return call.answer();
        } catch (RuntimeException e) {
            if (e.getClass() == IllegalArgumentException.class) {
                return Model.ILLEGAL;
            }
            if (e.getClass() == IndexOutOfBoundsException.class) {
                return Model.OUT_OF_BOUNDS;
            }
            if (e.getClass() == IllegalStateException.class) {
                return Model.IMPOSSIBLE;
            }
            throw e;
        }
    }

    private void same(String what, Check.Call call, double want) {
        Check.due(what, answer(call), want);
    }

    private void change() {
        int table = table();
        int key = key();
        int value = value(table);
        int from = day();
        int to = to(from);
        int record = record();
        int days = 1 + pick(longPass);
        switch (random.nextInt(10)) {
            case 0:
                same("pass " + days, () -> x.pass(days), model.pass(days));
                break;
            case 1:
                same("eraseAll", () -> x.eraseAll(key, from, to), model.eraseAll(key, from, to));
                break;
            case 2:
                same("restore", () -> x.restore(table, key, record),
                        model.restore(table, key, record));
                break;
            case 3:
                same("erase", () -> x.erase(table, key, from, to),
                        model.erase(table, key, from, to));
                break;
            default:
                same("put", () -> x.put(table, key, value, from, to),
                        model.put(table, key, value, from, to));
        }
    }

    private void question() {
        int table = table();
        int key = key();
        int valid = day();
        int from = record();
        int record = random.nextBoolean() ? record() : Math.max(from, record());
        int some = pick(6);
        askAsOf(table, key, valid, record);
        switch (random.nextInt(4)) {
            case 0:
                same("run", () -> x.run(table, key, record, some),
                        model.run(table, key, record, some));
                break;
            case 1:
                askRow(table, key, pick(Math.max(1, model.rows(table, key) + 1)));
                break;
            case 2:
                same("corrections", () -> x.corrections(table, key, valid, from, record),
                        model.corrections(table, key, valid, from, record));
                break;
            default:
                same("today", () -> x.today(), model.today());
        }
    }

    private void askAsOf(int table, int key, int valid, int record) {
        switch (random.nextInt(8)) {
            case 0:
                same("keys", () -> x.keys(table, valid, record), model.keys(table, valid, record));
                break;
            case 1:
                same("joined", () -> x.joined(key, valid, record),
                        model.joined(key, valid, record));
                break;
            case 2:
                same("runs", () -> x.runs(table, key, record), model.runs(table, key, record));
                break;
            case 3:
                same("joinedRuns", () -> x.joinedRuns(key, record), model.joinedRuns(key, record));
                break;
            case 4:
                same("rows", () -> x.rows(table, key), model.rows(table, key));
                break;
            case 5:
                same("longest", () -> x.longest(table, key, record),
                        model.longest(table, key, record));
                break;
            case 6:
                same("average", () -> x.average(key, record), model.average(key, record));
                break;
            default:
                same("value", () -> x.value(table, key, valid, record),
                        model.value(table, key, valid, record));
        }
    }

    private void askRow(int table, int key, int row) {
        same("rowRun", () -> x.rowRun(table, key, row), model.rowRun(table, key, row));
        same("rowFrom", () -> x.rowFrom(table, key, row), model.rowFrom(table, key, row));
        same("rowTo", () -> x.rowTo(table, key, row), model.rowTo(table, key, row));
    }

    /** Whatever the key, row and days: so a call that threw and yet changed something is seen. */
    private void askForAny() {
        int table = random.nextInt(2);
        int key = random.nextInt(random.nextBoolean() ? 3 : 8);
        int valid = random.nextInt(60);
        int record = random.nextInt(model.today() + 1);
        same("keys", () -> x.keys(table, valid, record), model.keys(table, valid, record));
        same("value", () -> x.value(table, key, valid, record),
                model.value(table, key, valid, record));
        askRow(table, key, random.nextInt(model.rows(table, key) + 1));
    }
}
