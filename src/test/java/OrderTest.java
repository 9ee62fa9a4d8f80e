import java.util.ArrayList;
import java.util.Arrays;
import java.util.List;

/**
 * "Terms": of several refusals and faults the first told is answered, and it changes nothing but fault(), of a
 * call that names FAULTS. Each call is spoiled in every set of ways in which it can be spoiled; one that only asks
 * changes nothing when it is answered, either.
 */
public final class OrderTest {
    private static final Check check = new Check("OrderTest");
    private static final int MIN = Integer.MIN_VALUE, MAX = Integer.MAX_VALUE;
    private static final int UNKNOWN = -1, OUTSIDE = -2, STATE = -3, FULL = -4;
    private static final int NULL = -11, CAST = -12, INDEX = -13, SIZE = -14;
    private static final int NO_STORE = -1, EIGHT_READINGS = -2;
    private static final List<String> NAMES_FAULTS = List.of("store", "year", "guess", "sheet", "put", "cell", "copy", "as");
    private static final List<String> CHANGES = List.of("store", "cure", "fetch", "price", "dread", "pay", "sell", "reading",
        "back", "sheet", "lose", "put", "copy", "tell", "sniff");
    /** Jar 2 is empty, and so is the purse of decider 2. */
    private static final String TEXT = "t;l7342;w8224;p9103;l9232,4150,6250,2900";
    private static final int[] NUMBERS = {0, 0, 1, 1, 0, 3, 2, 0, 4, 0};
    private static String asBefore = "";
    private static String asBeforeWithout = "";
    private static String asBeforeFull = "";

    /** A call is spoiled if its argument at the place (or its object, below 0) becomes any of the values. */
    record Spoiler(long answer, int place, int... values) {
    }

    public static void main(String[] args) {
        asBefore = Look.at(made(0, NULL));
        asBeforeWithout = Look.at(made(NO_STORE, NULL));
        asBeforeFull = Look.at(made(EIGHT_READINGS, NULL));
        store();
        ofStore();
        blends();
        sales();
        choices();
        readings();
        sheets();
        parts();
        check.end();
    }

    /** Sheet 0 has the text, 1 and 2 are rows of shorts, 3 has nothing; the latest call came to a FAULT. */
    private static LastJars made(int state, int ahead) {
        LastJars x = new LastJars();
        Check.lay(x, 0, 2, Check.codes(TEXT));
        Check.lay(x, 1, 1, NUMBERS);
        Check.lay(x, 2, 1, -7, 300, 7);
        if (state != NO_STORE) {
            x.store(0, 2, 0, TEXT.length());
            x.sell(0, 0);
            for (int r = 0; r < (state == EIGHT_READINGS ? 8 : 3); r++) {
                x.reading(r % 4, r % 4 + 1, r);
            }
            x.tell(2);
        }
        check.due("the FAULT ahead", ahead, ahead == NULL ? x.put(3, 0, 0) : x.sheet(3, 0, -1));
        return x;
    }

    private static void spoil(String name, long good, int[] a, Spoiler... spoilers) {
        check.promise(name);
        due(name, good, a, 0);
        for (int some = 1; some < 1 << spoilers.length; some++) {
            List<Spoiler> chosen = new ArrayList<>();
            for (int s = 0; s < spoilers.length; s++) {
                if ((some >> s & 1) == 1) {
                    chosen.add(spoilers[s]);
                }
            }
            if (chosen.stream().mapToInt(Spoiler::place).distinct().count() == chosen.size()) {
                spoil(name, a, chosen);
            }
        }
    }

    private static void spoil(String name, int[] a, List<Spoiler> chosen) {
        int rounds = chosen.stream().mapToInt(s -> s.values().length).max().orElse(0);
        for (int round = 0; round < Math.max(1, rounds); round++) {
            int[] spoiled = a.clone();
            int state = 0;
            for (Spoiler s : chosen) {
                if (s.place() < 0) {
                    state = s.place();
                } else {
                    spoiled[s.place()] = s.values()[round % s.values().length];
                }
            }
            due(name, chosen.get(0).answer(), spoiled, state);
        }
    }

    private static void due(String name, long answer, int[] a, int state) {
        boolean isLong = name.equals("cell") || name.equals("odds");
        // Another FAULT than the due one stands ahead, so that one that is not told anew is seen.
        int ahead = answer == NULL ? SIZE : NULL;
        LastJars x = made(state, ahead);
        String call = name + Arrays.toString(a) + (state == NO_STORE ? " without a store" : "");
        check.due(call, isLong && answer < 0 ? LastJars.LOST : answer, Look.call(x, name, a));
        int fault = answer <= NULL && answer >= SIZE ? (int) (-10 - answer) : 0;
        check.due("fault() behind " + call, NAMES_FAULTS.contains(name) ? fault : -10 - ahead, x.fault());
        if (answer < 0 || !CHANGES.contains(name)) {
            String before = state == NO_STORE ? asBeforeWithout : state == EIGHT_READINGS ? asBeforeFull : asBefore;
            check.holds(call + " changed something", before.equals(Look.at(x)));
        }
    }

    private static int[] of(int... a) {
        return a;
    }

    private static Spoiler by(long answer, int place, int... values) {
        return new Spoiler(answer, place, values);
    }

    /** SHEETS that there are not; NULL stands ahead of CAST everywhere, as nothing is no CAST. */
    private static Spoiler noSheet(int place) {
        return by(UNKNOWN, place, -1, 4, MIN, MAX);
    }

    private static Spoiler noLane(int place) {
        return by(OUTSIDE, place, -1, 3, MIN, MAX);
    }

    private static Spoiler noDigit(int place) {
        return by(OUTSIDE, place, -1, 10, MIN, MAX);
    }

    private static Spoiler noJar(int place) {
        return by(UNKNOWN, place, -1, 4, 6, MIN, MAX);
    }

    private static Spoiler noDecider(int place) {
        return by(UNKNOWN, place, -1, 3, 4, MIN, MAX);
    }

    private static Spoiler noStore(long answer) {
        return by(answer, NO_STORE);
    }

    private static void store() {
        spoil("store", 4, of(0, 2, 0, 40), noSheet(0), noLane(1), by(NULL, 0, 3), by(CAST, 1, 0, 1),
            by(SIZE, 3, -1, MIN), by(INDEX, 2, -1, 41, MIN, MAX), by(INDEX, 3, 41, MAX), by(-139, 3, 39), by(-100, 3, 0));
        spoil("store", 4, of(0, 2, 0, 40), noSheet(0), noLane(1), by(NULL, 0, 3), by(CAST, 1, 0, 1), by(INDEX, 2, 1, 40));
        spoil("store", -100, of(1, 1, 10, 0), noSheet(0), noLane(1), by(NULL, 0, 3), by(CAST, 1, 0, 2), by(SIZE, 3, -1, MIN),
            by(INDEX, 2, -1, 11, MIN, MAX));
    }

    private static void ofStore() {
        spoil("ofJar", 8, of(1, 1), noStore(UNKNOWN), noJar(0), by(OUTSIDE, 1, -1, 6, MIN, MAX));
        spoil("ofDecider", 48, of(0, 2), noStore(UNKNOWN), noDecider(0), by(OUTSIDE, 1, -1, 4, MIN, MAX));
        spoil("cure", 8, of(1, 9), noStore(UNKNOWN), noJar(0), noDigit(1));
        spoil("fetch", 2, of(1, 9), noStore(UNKNOWN), noJar(0), noDigit(1));
        spoil("price", 4, of(1, 9), noStore(UNKNOWN), noJar(0), noDigit(1));
        spoil("dread", 4, of(0, 9), noStore(UNKNOWN), noDecider(0), noDigit(1));
        spoil("pay", 48, of(0, 99), noStore(UNKNOWN), noDecider(0), by(OUTSIDE, 1, -1, 100, MIN, MAX));
        spoil("mark", 8, of(1, 1), noStore(UNKNOWN), noJar(0), noDigit(1));
    }

    private static void blends() {
        spoil("blend", 6, of(3, 1), noStore(STATE), by(OUTSIDE, 0, 0, -1, 16, 17, 32, 64, MIN, MAX), noDigit(1));
        spoil("hold", 3, of(3, 3), noStore(STATE), by(OUTSIDE, 0, 0, -1, 16, 17, 32, 64, MIN, MAX), noDigit(1));
    }

    private static void sales() {
        spoil("sell", 1, of(0, 1), noStore(UNKNOWN), noDecider(0), noJar(1), by(STATE, 0, 2), by(STATE, 1, 2));
        // The pairs (0, 0) (1, 1) (0, 3), one of an empty purse, and one of a jar that there is not.
        Spoiler[] spoilers = {noSheet(0), noLane(1), by(OUTSIDE, 3, -1, 21, MIN, MAX),
            by(OUTSIDE, 4, -1, 4, 9, 16, 19, 24, MIN, MAX), noStore(STATE), by(NULL, 0, 3), by(CAST, 1, 0, 2),
            by(INDEX, 2, -1, 11, MIN, MAX), by(INDEX, 3, 6, 20), by(UNKNOWN, 3, 5), by(-103, 3, 4)};
        spoil("year", 3, of(1, 1, 0, 3, 0), spoilers);
        spoil("year", 44, of(1, 1, 0, 3, 20), spoilers);
    }

    private static void choices() {
        spoil("mix", 2, of(0, 0), noStore(UNKNOWN), noDecider(0), by(OUTSIDE, 1, -1, 2, MIN, MAX));
        spoil("like", -9, of(0), noStore(UNKNOWN), noJar(0));
        spoil("guess", 6, of(1, 1, 0, 1, 0), noSheet(0), noLane(1), by(OUTSIDE, 3, -1, 11, MIN, MAX),
            by(OUTSIDE, 4, -1, 3, MIN, MAX), noStore(STATE), by(NULL, 0, 3), by(CAST, 1, 0, 2),
            by(INDEX, 2, -1, 10, 11, MIN, MAX));
        spoil("guess", 0, of(2, 1, 0, 3, 0), noSheet(0), noLane(1), by(OUTSIDE, 3, -1, 11, MIN, MAX),
            by(OUTSIDE, 4, -1, 3, MIN, MAX), noStore(STATE), by(NULL, 0, 3), by(CAST, 1, 0, 2), by(INDEX, 3, 4, 10));
        spoil("serve", 0, of(0), by(OUTSIDE, 0, -2, 4, MIN, MAX), noStore(STATE));
        spoil("dear", 9, of(0), noStore(UNKNOWN), noJar(0));
    }

    private static void readings() {
        spoil("reading", 3, of(1, 1, 8), noStore(UNKNOWN), noJar(0), noDigit(1), noDigit(2));
        spoil("reading", 3, of(1, 1, 8), noJar(0), noDigit(1), noDigit(2), by(FULL, EIGHT_READINGS));
        spoil("back", 0, of(3), by(OUTSIDE, 0, -1, 4, 9, MIN, MAX));
        spoil("back", 0, of(3), noStore(OUTSIDE));
        spoil("sures", 0, of(0), noStore(UNKNOWN), noJar(0));
        spoil("fades", 0, of(0), noStore(UNKNOWN), noJar(0));
        spoil("kinds", 0, of(0), noStore(UNKNOWN), noJar(0));
        spoil("odds", 1, of(0, 1), noStore(UNKNOWN), noDecider(0), by(OUTSIDE, 1, -1, 2, MIN, MAX));
    }

    private static void sheets() {
        spoil("sheet", 1, of(1, 0, 60), noSheet(0), noLane(1), by(OUTSIDE, 2, 61, MAX), by(SIZE, 2, -1, MIN));
        spoil("sheet", 1, of(3, 2, 0), noSheet(0), noLane(1), by(OUTSIDE, 2, 61, MAX), by(SIZE, 2, -1, MIN));
        spoil("lose", 1, of(0), noSheet(0));
        spoil("put", 1, of(1, 9, 5), noSheet(0), by(NULL, 0, 3), by(INDEX, 1, -1, 10, 60, MIN, MAX));
        spoil("cell", 300, of(2, 1, 1), noSheet(0), noLane(2), by(NULL, 0, 3), by(CAST, 2, 0, 2),
            by(INDEX, 1, -1, 3, 60, MIN, MAX));
        for (int place : of(0, 2)) {
            spoil("copy", 3, of(1, 1, 2, 0, 3), noSheet(0), noSheet(2), by(NULL, 0, 3), by(NULL, 2, 3), by(CAST, place, 0),
                by(INDEX, 1, -1, 8, 10, 11, MIN, MAX), by(INDEX, 3, -1, 1, 3, 4, MIN, MAX), by(INDEX, 4, -1, 4, MIN, MAX));
        }
        spoil("copy", 0, of(1, 10, 2, 3, 0), by(INDEX, 1, -1, 11), by(INDEX, 3, -1, 4), by(INDEX, 4, -1, 1));
    }

    private static void parts() {
        spoil("tell", 108, of(1), noStore(UNKNOWN), noJar(0));
        spoil("sniff", 1, of(1), noStore(UNKNOWN), noJar(0));
        spoil("as", 1, of(1, 1), noStore(UNKNOWN), noJar(0), by(OUTSIDE, 1, -1, 3, MIN, MAX), by(CAST, 0, 0, 3), by(CAST, 1, 2));
        spoil("many", 4, of(0), by(OUTSIDE, 0, -1, 4, MIN, MAX));
        spoil("many", 4, of(0), by(OUTSIDE, 0, -1, 4, MIN, MAX), noStore(0));
    }
}
