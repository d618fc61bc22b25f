/** A Twotimes whose calls are counted: what it answers after its 512th is free, so no test asks. */
final class Counted {
    static final int MOST = 512;

    private final Twotimes counted = new Twotimes();
    private int calls = 0;

    int left() {
        return MOST - calls;
    }

    private Twotimes called() {
        if (left() == 0) {
            throw new AssertionError("the test makes more than " + MOST + " calls");
        }
        calls++;
        return counted;
    }

    int put(int table, int key, int value, int from, int to) {
        return called().put(table, key, value, from, to);
    }

    int erase(int table, int key, int from, int to) {
        return called().erase(table, key, from, to);
    }

    int eraseAll(int key, int from, int to) {
        return called().eraseAll(key, from, to);
    }

    int restore(int table, int key, int record) {
        return called().restore(table, key, record);
    }

    int pass(int days) {
        return called().pass(days);
    }

    int today() {
        return called().today();
    }

    int value(int table, int key, int valid, int record) {
        return called().value(table, key, valid, record);
    }

    int keys(int table, int valid, int record) {
        return called().keys(table, valid, record);
    }

    int joined(int key, int valid, int record) {
        return called().joined(key, valid, record);
    }

    int runs(int table, int key, int record) {
        return called().runs(table, key, record);
    }

    int run(int table, int key, int record, int run) {
        return called().run(table, key, record, run);
    }

    int joinedRuns(int key, int record) {
        return called().joinedRuns(key, record);
    }

    int rows(int table, int key) {
        return called().rows(table, key);
    }

    int rowRun(int table, int key, int row) {
        return called().rowRun(table, key, row);
    }

    int rowFrom(int table, int key, int row) {
        return called().rowFrom(table, key, row);
    }

    int rowTo(int table, int key, int row) {
        return called().rowTo(table, key, row);
    }

    int corrections(int table, int key, int valid, int from, int to) {
        return called().corrections(table, key, valid, from, to);
    }

    int longest(int table, int key, int record) {
        return called().longest(table, key, record);
    }

    float average(int key, int record) {
        return called().average(key, record);
    }
}
