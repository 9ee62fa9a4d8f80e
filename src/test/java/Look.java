import java.lang.reflect.Method;
import java.lang.reflect.Modifier;
import java.util.Arrays;
import java.util.Map;
import java.util.TreeMap;

/** Calls by their names, and all that an object tells of itself. */
final class Look {
    static final Map<String, Method> CALLS = new TreeMap<>();

    static {
        for (Method method : LastJars.class.getDeclaredMethods()) {
            if (Modifier.isPublic(method.getModifiers())) {
                CALLS.put(method.getName(), method);
            }
        }
    }

    private Look() {
    }

    static long call(LastJars x, String name, int... a) {
        try {
            Object answer = CALLS.get(name).invoke(x, Arrays.stream(a).boxed().toArray());
            return ((Number) answer).longValue();
        } catch (ReflectiveOperationException thrown) {
            throw new IllegalStateException(name + Arrays.toString(a) + " threw " + thrown.getCause());
        }
    }

    /** All but fault(), as one text. It takes the READINGS back to see each of them, so nothing is asked behind it. */
    static String at(LastJars x) {
        StringBuilder told = new StringBuilder("trace ").append(x.trace()).append('\n');
        for (int what = 0; what < 4; what++) {
            told.append(" many ").append(x.many(what));
        }
        for (int j = 0; j < x.many(0); j++) {
            told.append("\njar ").append(j).append(':');
            for (int what = 0; what < 5; what++) {
                told.append(' ').append(x.ofJar(j, what));
            }
        }
        for (int b = 0; b < x.many(1); b++) {
            told.append("\ndecider ").append(b).append(':');
            for (int what = 0; what < 4; what++) {
                told.append(' ').append(x.ofDecider(b, what));
            }
        }
        sheets(x, told);
        readings(x, told);
        return told.toString();
    }

    private static void sheets(LastJars x, StringBuilder told) {
        for (int k = 0; k < 4; k++) {
            told.append("\nsheet ").append(k).append(':');
            for (int lane = 0; lane < 3; lane++) {
                x.cell(k, -1, lane);
                if (x.fault() == 3) {
                    told.append(" of lane ").append(lane);
                    long cell = x.cell(k, 0, lane);
                    for (int i = 1; cell != LastJars.LOST; i++) {
                        told.append(' ').append(cell);
                        cell = x.cell(k, i, lane);
                    }
                }
            }
        }
    }

    private static void readings(LastJars x, StringBuilder told) {
        while (x.many(3) > 0) {
            told.append("\nreadings ").append(x.many(3)).append(':');
            for (int j = 0; j < x.many(0); j++) {
                told.append(' ').append(x.sures(j)).append(' ').append(x.fades(j)).append(' ').append(x.kinds(j));
            }
            x.back(1);
        }
    }
}
