import java.util.ArrayList;
import java.util.Arrays;
import java.util.List;
import java.util.TreeMap;

/**
 * The document's words as slow code that shares nothing with Twotimes: a full picture of both
 * tables for each day of record, and rows gathered from all of them.
 */
final class Model {
    static final int ILLEGAL = -1001;
    static final int OUT_OF_BOUNDS = -1002;
    static final int IMPOSSIBLE = -1003;

    private int[][][][] pictures = new int[60][][][];
    private int today = 0;

    Model() {
        pictures[0] = new int[2][8][60];
        for (int[][] table : pictures[0]) {
            for (int[] key : table) {
                Arrays.fill(key, -1);
            }
        }
    }

    private static int[][][] copy(int[][][] picture) {
        int[][][] copy = new int[2][8][];
        for (int table = 0; table < 2; table++) {
            for (int key = 0; key < 8; key++) {
                copy[table][key] = picture[table][key].clone();
            }
        }
        return copy;
    }

    private static boolean in(int number, int least, int most) {
        return least <= number && number <= most;
    }

    private static boolean place(int table, int key) {
        return in(table, 0, 1) && in(key, 0, 7);
    }

    private static boolean span(int from, int to) {
        return in(from, 0, 59) && in(to, from + 1, 60);
    }

    private static boolean referencesHold(int[][][] picture) {
        for (int[] key : picture[1]) {
            for (int day = 0; day < 60; day++) {
                if (key[day] >= 0 && picture[0][key[day]][day] < 0) {
                    return false;
                }
            }
        }
        return true;
    }

    private static int differences(int[][][] a, int[][][] b) {
        int count = 0;
        for (int table = 0; table < 2; table++) {
            for (int key = 0; key < 8; key++) {
                for (int day = 0; day < 60; day++) {
                    if (a[table][key][day] != b[table][key][day]) {
                        count++;
                    }
                }
            }
        }
        return count;
    }

    private int takeOn(int[][][] next) {
        if (!referencesHold(next)) {
            return IMPOSSIBLE;
        }
        int count = differences(pictures[today], next);
        pictures[today] = next;
        return count;
    }

    int put(int table, int key, int value, int from, int to) {
        if (!place(table, key) || !span(from, to) || !in(value, 0, table == 0 ? 99 : 7)) {
            return ILLEGAL;
        }
        int[][][] next = copy(pictures[today]);
        Arrays.fill(next[table][key], from, to, value);
        return takeOn(next);
    }

    int erase(int table, int key, int from, int to) {
        if (!place(table, key) || !span(from, to)) {
            return ILLEGAL;
        }
        int[][][] next = copy(pictures[today]);
        Arrays.fill(next[table][key], from, to, -1);
        return takeOn(next);
    }

    int eraseAll(int key, int from, int to) {
        if (!in(key, 0, 7) || !span(from, to)) {
            return ILLEGAL;
        }
        int[][][] next = copy(pictures[today]);
        Arrays.fill(next[0][key], from, to, -1);
        for (int[] referring : next[1]) {
            for (int day = from; day < to; day++) {
                referring[day] = referring[day] == key ? -1 : referring[day];
            }
        }
        return takeOn(next);
    }

    int restore(int table, int key, int record) {
        if (!place(table, key) || !in(record, 0, 59)) {
            return ILLEGAL;
        }
        if (record > today) {
            return OUT_OF_BOUNDS;
        }
        int[][][] next = copy(pictures[today]);
        next[table][key] = pictures[record][table][key].clone();
        return takeOn(next);
    }

    int pass(int days) {
        if (!in(days, 1, 59)) {
            return ILLEGAL;
        }
        if (today + days > 59) {
            return IMPOSSIBLE;
        }
        for (int day = 0; day < days; day++) {
            pictures[today + 1] = copy(pictures[today]);
            today++;
        }
        return today;
    }

    int today() {
        return today;
    }

    /** What is thrown for the ranges that most questions share, or 0. */
    private int wrong(boolean inRange, int record) {
        if (!inRange || !in(record, 0, 59)) {
            return ILLEGAL;
        }
        return record > today ? OUT_OF_BOUNDS : 0;
    }

    int value(int table, int key, int valid, int record) {
        int wrong = wrong(place(table, key) && in(valid, 0, 59), record);
        return wrong != 0 ? wrong : pictures[record][table][key][valid];
    }

    int keys(int table, int valid, int record) {
        int wrong = wrong(in(table, 0, 1) && in(valid, 0, 59), record);
        if (wrong != 0) {
            return wrong;
        }
        int set = 0;
        for (int key = 7; key >= 0; key--) {
            set = set * 2 + (pictures[record][table][key][valid] < 0 ? 0 : 1);
        }
        return set;
    }

    int joined(int key, int valid, int record) {
        int wrong = wrong(in(key, 0, 7) && in(valid, 0, 59), record);
        if (wrong != 0) {
            return wrong;
        }
        int refers = pictures[record][1][key][valid];
        return refers < 0 ? -1 : pictures[record][0][refers][valid];
    }

    /** The spans of like numbers that are not negative, as first day, day behind, number. */
    private static List<int[]> spans(int[] days) {
        List<int[]> spans = new ArrayList<>();
        for (int day = 0; day < 60; day++) {
            int[] last = spans.isEmpty() ? null : spans.get(spans.size() - 1);
            if (days[day] < 0) {
                continue;
            }
            if (last != null && last[1] == day && last[2] == days[day]) {
                last[1]++;
            } else {
                spans.add(new int[] {day, day + 1, days[day]});
            }
        }
        return spans;
    }

    private static int number(int[] span) {
        return 10000 * span[0] + 100 * span[1] + span[2];
    }

    int runs(int table, int key, int record) {
        int wrong = wrong(place(table, key), record);
        return wrong != 0 ? wrong : spans(pictures[record][table][key]).size();
    }

    int run(int table, int key, int record, int run) {
        int wrong = wrong(place(table, key), record);
        if (wrong != 0) {
            return wrong;
        }
        List<int[]> spans = spans(pictures[record][table][key]);
        return in(run, 0, spans.size() - 1) ? number(spans.get(run)) : OUT_OF_BOUNDS;
    }

    int joinedRuns(int key, int record) {
        int wrong = wrong(in(key, 0, 7), record);
        if (wrong != 0) {
            return wrong;
        }
        int[] pairs = new int[60];
        for (int day = 0; day < 60; day++) {
            int refers = pictures[record][1][key][day];
            pairs[day] = refers < 0 ? -1 : refers * 100 + pictures[record][0][refers][day];
        }
        return spans(pairs).size();
    }

    /** Rows as first day of record, day behind or -1, number of the run; in their order. */
    private List<int[]> allRows(int table, int key) {
        TreeMap<Integer, boolean[]> days = new TreeMap<>();
        for (int record = 0; record <= today; record++) {
            for (int[] span : spans(pictures[record][table][key])) {
                days.computeIfAbsent(number(span), n -> new boolean[61])[record] = true;
            }
        }
        List<int[]> rows = new ArrayList<>();
        for (int number : days.keySet()) {
            boolean[] has = days.get(number);
            for (int from = 0; from < 60; from++) {
                if (has[from] && (from == 0 || !has[from - 1])) {
                    int to = from;
                    while (has[to]) {
                        to++;
                    }
                    rows.add(new int[] {from, to > today ? -1 : to, number});
                }
            }
        }
        rows.sort((a, b) -> a[0] != b[0] ? a[0] - b[0] : a[2] / 10000 - b[2] / 10000);
        return rows;
    }

    int rows(int table, int key) {
        return place(table, key) ? allRows(table, key).size() : ILLEGAL;
    }

    private int ofRow(int table, int key, int row, int what) {
        if (!place(table, key)) {
            return ILLEGAL;
        }
        List<int[]> rows = allRows(table, key);
        return in(row, 0, rows.size() - 1) ? rows.get(row)[what] : OUT_OF_BOUNDS;
    }

    int rowRun(int table, int key, int row) {
        return ofRow(table, key, row, 2);
    }

    int rowFrom(int table, int key, int row) {
        return ofRow(table, key, row, 0);
    }

    int rowTo(int table, int key, int row) {
        return ofRow(table, key, row, 1);
    }

    int corrections(int table, int key, int valid, int from, int to) {
        boolean inRange = place(table, key) && in(valid, 0, 59) && in(from, 0, 59) && from <= to;
        int wrong = wrong(inRange, to);
        if (wrong != 0) {
            return wrong;
        }
        int count = 0;
        for (int record = to; record > from; record--) {
            int[][] pair = {pictures[record - 1][table][key], pictures[record][table][key]};
            count += pair[0][valid] == pair[1][valid] ? 0 : 1;
        }
        return count;
    }

    int longest(int table, int key, int record) {
        int wrong = wrong(place(table, key), record);
        if (wrong != 0) {
            return wrong;
        }
        int longest = 0;
        for (int[] span : spans(pictures[record][table][key])) {
            longest = Math.max(longest, span[1] - span[0]);
        }
        return longest;
    }

    double average(int key, int record) {
        int wrong = wrong(in(key, 0, 7), record);
        if (wrong != 0) {
            return wrong;
        }
        float sum = 0;
        float days = 0;
        for (int value : pictures[record][0][key]) {
            if (value >= 0) {
                sum += value;
                days++;
            }
        }
        return days == 0 ? IMPOSSIBLE : sum / days;
    }
}
