import java.util.function.LongSupplier;

/** Counts answers that are not the due ones, and ends the program with 1 if there was one. */
final class Check {
    private final String title;
    private int asked = 0;
    private int wrong = 0;
    private String promise = "";

    Check(String title) {
        this.title = title;
    }

    void promise(String name) {
        promise = name;
    }

    void due(String call, long want, LongSupplier answer) {
        asked++;
        String got;
        try {
            long value = answer.getAsLong();
            if (value == want) {
                return;
            }
            got = Long.toString(value);
        } catch (RuntimeException | StackOverflowError thrown) {
            got = thrown.toString();
        }
        wrong++;
        System.out.println(promise + ": " + call + " answered " + got + ", due is " + want);
    }

    void due(String call, long want, long got) {
        due(call, want, () -> got);
    }

    void holds(String what, boolean so) {
        asked++;
        if (!so) {
            wrong++;
            System.out.println(promise + ": " + what);
        }
    }

    void end() {
        System.out.println(title + ": " + asked + " answers, " + wrong + " not as due");
        if (wrong != 0 || asked == 0) {
            System.exit(1);
        }
    }

    /** Lays a text into a sheet and stores it. */
    static int store(LastJars x, String text) {
        lay(x, 3, 2, codes(text));
        return x.store(3, 2, 0, text.length());
    }

    static int[] codes(String text) {
        return text.chars().toArray();
    }

    static void lay(LastJars x, int sheet, int lane, int... values) {
        x.sheet(sheet, lane, values.length);
        for (int i = 0; i < values.length; i++) {
            x.put(sheet, i, values[i]);
        }
    }

    static LastJars shop(String text) {
        LastJars x = new LastJars();
        if (store(x, text) < 1) {
            throw new IllegalStateException("no text: " + text);
        }
        return x;
    }
}
