/** All that an object's questions tell, as text, in so many calls as an object has left. */
final class State {
    private State() {
    }

    static String of(Counted x) {
        StringBuilder text = new StringBuilder();
        int today = x.today();
        text.append("today ").append(today);
        for (int table = 0; table < 2; table++) {
            for (int key = 0; key < 8; key++) {
                text.append("; table ").append(table).append(" key ").append(key);
                runs(text, x, table, key, today);
                rows(text, x, table, key);
            }
            for (int valid = 0; valid < 60; valid++) {
                text.append(valid == 0 ? "; keys " : " ").append(x.keys(table, valid, today));
            }
        }
        for (int key = 0; key < 8; key++) {
            text.append("; joined runs ").append(x.joinedRuns(key, today));
        }
        return text.toString();
    }

    private static void runs(StringBuilder text, Counted x, int table, int key, int today) {
        int runs = x.runs(table, key, today);
        for (int run = 0; run < runs; run++) {
            text.append(" run ").append(x.run(table, key, today, run));
        }
    }

    private static void rows(StringBuilder text, Counted x, int table, int key) {
        int rows = x.rows(table, key);
        for (int row = 0; row < rows; row++) {
            text.append(" row ").append(x.rowRun(table, key, row));
            text.append(' ').append(x.rowFrom(table, key, row));
            text.append(' ').append(x.rowTo(table, key, row));
        }
    }
}
