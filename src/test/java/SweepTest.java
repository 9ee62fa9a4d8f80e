import java.util.ArrayList;
import java.util.List;

/** Every call with every row of numbers that stand at or around a bound, in several states, against the Model. */
public final class SweepTest {
    private static final Check check = new Check("SweepTest");
    private static final int MIN = Integer.MIN_VALUE, MAX = Integer.MAX_VALUE;
    /** By how many numbers a call takes: the more there are, the fewer values each of them gets. */
    private static final int[][] VALUES = {
        {}, range(-130, 130, MIN, MIN + 1, MAX - 1, MAX), range(-3, 105, MIN, MIN + 1, MAX - 1, MAX),
        {MIN, -2, -1, 0, 1, 2, 3, 4, 5, 6, 7, 9, 10, 11, 39, 40, 41, 59, 60, 61, 99, 100, 127, 128, 256, 32768, 65536, MAX},
        {MIN, -1, 0, 1, 2, 3, 4, 5, 12, 13, 56, 57, 58, 60, 61, MAX},
        {MIN, -1, 0, 1, 2, 3, 4, 5, 10, 11, 20, 21, MAX}};
    private static final String[] TEXTS = {"", "t;l9010,9000", "t;l9099;w9199;p9299;l8399;w7499;p6999,9199,8299,7399,0999"};

    public static void main(String[] args) {
        for (String text : TEXTS) {
            for (String name : Look.CALLS.keySet()) {
                check.promise("store '" + text + "'");
                sweep(text, name);
            }
        }
        check.end();
    }

    private static int[] range(int least, int end, int... more) {
        int[] all = java.util.Arrays.copyOf(more, more.length + end - least);
        for (int v = least; v < end; v++) {
            all[more.length + v - least] = v;
        }
        return all;
    }

    private static void sweep(String text, String name) {
        int count = Look.CALLS.get(name).getParameterCount();
        Pair pair = new Pair(text);
        for (int[] a : rows(count)) {
            if (pair.calls > 300) {
                pair = new Pair(text);
            }
            pair.call(name, a);
            pair.call("fault");
        }
    }

    private static List<int[]> rows(int count) {
        List<int[]> rows = new ArrayList<>();
        rows.add(new int[0]);
        for (int place = 0; place < count; place++) {
            List<int[]> longer = new ArrayList<>();
            for (int[] row : rows) {
                for (int v : VALUES[count]) {
                    int[] more = java.util.Arrays.copyOf(row, place + 1);
                    more[place] = v;
                    longer.add(more);
                }
            }
            rows = longer;
        }
        return rows;
    }

    /** The class and the Model in the same state; sheet 0 has the text, 1 has numbers, 2 has no cells, 3 has nothing. */
    private static final class Pair {
        final LastJars x = new LastJars();
        final Model model = new Model();
        int calls = 0;

        Pair(String text) {
            lay(0, 0, Check.codes(text));
            call("store", 0, 0, 0, text.length());
            int[] numbers = new int[60];
            for (int i = 0; i < 60; i++) {
                numbers[i] = i < 40 ? 0 : i < 50 ? 9 : i;
            }
            lay(1, 1, numbers);
            call("sheet", 2, 2, 0);
            call("reading", 0, 0, 9);
            call("reading", 0, 9, 9);
        }

        void lay(int k, int lane, int... values) {
            call("sheet", k, lane, values.length);
            for (int i = 0; i < values.length; i++) {
                call("put", k, i, values[i]);
            }
        }

        void call(String name, int... a) {
            calls++;
            long got = Look.call(x, name, a);
            long want = model.call(name, a);
            if (got == want) {
                check.holds(name, true);
            } else {
                check.due(name + java.util.Arrays.toString(a), want, got);
            }
        }
    }
}
