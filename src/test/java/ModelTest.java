import java.lang.reflect.Method;
import java.util.Arrays;
import java.util.Map;
import java.util.Random;
import java.util.TreeMap;

/** Long runs of calls, always the same ones, answered by the class and by the Model alike. */
public final class ModelTest {
    private static final int RUNS = 1500;
    private static final Map<String, Method> calls = new TreeMap<>();
    private static final Check check = new Check("ModelTest");
    private static Random dice;
    private static LastJars x;
    private static Model model;
    private static int left;

    public static void main(String[] args) throws Exception {
        check.promise("all");
        for (Method method : LastJars.class.getDeclaredMethods()) {
            if (java.lang.reflect.Modifier.isPublic(method.getModifiers())) {
                calls.put(method.getName(), method);
            }
        }
        for (int run = 0; run < RUNS; run++) {
            run(run);
        }
        check.end();
    }

    private static void run(int run) throws Exception {
        dice = new Random(run);
        x = new LastJars();
        model = new Model();
        left = 512;
        if (run % 10 != 0) {
            text();
        }
        String[] names = calls.keySet().toArray(new String[0]);
        while (left > 0) {
            int die = dice.nextInt(100);
            if (die < 1) {
                text();
            } else if (die < 4) {
                year();
            } else if (die < 6) {
                guess();
            } else if (die < 10) {
                reading();
            } else {
                String name = names[dice.nextInt(names.length)];
                call(name, arguments(name));
            }
        }
    }

    private static void call(String name, int... a) throws Exception {
        if (left-- <= 0) {
            return;
        }
        Object[] boxed = Arrays.stream(a).boxed().toArray();
        Object got = calls.get(name).invoke(x, boxed);
        check.due(name + Arrays.toString(a), model.call(name, a), ((Number) got).longValue());
    }

    private static int digit() {
        return dice.nextInt(10);
    }

    private static void text() throws Exception {
        StringBuilder text = new StringBuilder("t");
        int jars = 1 + dice.nextInt(dice.nextInt(8) == 0 ? 7 : 6);
        boolean scarce = dice.nextBoolean();
        for (int j = 0; j < jars; j++) {
            text.append(';').append("lwp".charAt(dice.nextInt(3))).append(dice.nextBoolean() ? digit() : 5 + dice.nextInt(5))
                .append(dice.nextInt(4)).append(scarce ? dice.nextInt(3) : digit()).append(digit());
        }
        int deciders = 1 + dice.nextInt(dice.nextInt(8) == 0 ? 5 : 4);
        for (int b = 0; b < deciders; b++) {
            text.append(',').append(digit()).append(dice.nextInt(dice.nextBoolean() ? 3 : 10))
                .append(dice.nextInt(dice.nextBoolean() ? 1 : 10)).append(digit());
        }
        if (dice.nextInt(3) == 0) {
            int at = dice.nextInt(text.length());
            text.setCharAt(at, "tlwp;,0945/:x".charAt(dice.nextInt(13)));
        }
        if (dice.nextInt(4) == 0) {
            text.setLength(dice.nextInt(text.length() + 1));
        }
        int lane = dice.nextInt(3);
        int k = dice.nextInt(4);
        int from = dice.nextInt(3);
        if (from + text.length() > 60) {
            from = 0;
        }
        if (text.length() > 60) {
            text.setLength(60);
        }
        call("sheet", k, lane, from + text.length());
        for (int i = 0; i < text.length(); i++) {
            call("put", k, from + i, text.charAt(i));
        }
        call("store", k, lane, from, text.length());
    }

    private static void year() throws Exception {
        int k = dice.nextInt(4);
        int n = dice.nextInt(6);
        call("sheet", k, 0, 2 * n);
        for (int p = 0; p < n; p++) {
            call("put", k, 2 * p, dice.nextInt(dice.nextInt(9) == 0 ? 6 : Math.max(1, model.deciders.size())));
            call("put", k, 2 * p + 1, dice.nextInt(dice.nextInt(9) == 0 ? 8 : Math.max(1, model.jars.size())));
        }
        for (int what : new int[] {0, 1, 2, 3, 10 + dice.nextInt(6), 20 + dice.nextInt(4)}) {
            call("year", k, 0, 0, n, what);
        }
    }

    private static void guess() throws Exception {
        int k = dice.nextInt(4);
        int n = dice.nextInt(11);
        int set = model.jars.isEmpty() ? 0 : 1 + dice.nextInt((1 << model.jars.size()) - 1);
        call("sheet", k, 1, n);
        for (int t = 0; t < n; t++) {
            call("put", k, t, (int) model.call("blend", set, t));
        }
        for (int what = 0; what < 3; what++) {
            call("guess", k, 1, 0, n, what);
        }
    }

    private static void reading() throws Exception {
        int j = dice.nextInt(6);
        int t = dice.nextInt(10);
        call("reading", j, t, (int) model.call("mark", j, t));
        call("sures", dice.nextInt(6));
        call("fades", dice.nextInt(6));
        call("kinds", dice.nextInt(6));
    }

    private static int[] arguments(String name) {
        int[] a = new int[calls.get(name).getParameterCount()];
        for (int i = 0; i < a.length; i++) {
            a[i] = argument(name, i);
        }
        return a;
    }

    private static int argument(String name, int i) {
        int die = dice.nextInt(200);
        if (die < 3) {
            return new int[] {Integer.MIN_VALUE, Integer.MAX_VALUE, -1, 61, 100}[dice.nextInt(5)];
        }
        if (die < 6) {
            return dice.nextInt(70) - 5;
        }
        if (i == 0 && (name.equals("blend") || name.equals("hold"))) {
            return dice.nextInt(1 + (1 << model.jars.size()));
        }
        if (name.equals("back")) {
            return dice.nextInt(3);
        }
        if (name.equals("pay") && i == 1) {
            return dice.nextInt(101);
        }
        if (name.equals("serve")) {
            return dice.nextInt(6) - 1;
        }
        if (name.equals("sheet") && i == 2) {
            return dice.nextInt(62);
        }
        if (name.equals("put") && i == 2) {
            return dice.nextBoolean() ? dice.nextInt() : dice.nextInt(10);
        }
        if (name.equals("lose") && dice.nextInt(3) > 0) {
            return 4;
        }
        return dice.nextInt(i == 0 ? 5 : dice.nextBoolean() ? 4 : 11);
    }
}
