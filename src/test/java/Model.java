import java.util.ArrayList;
import java.util.Arrays;
import java.util.Comparator;
import java.util.List;
import java.util.function.ToIntFunction;
import java.util.regex.Matcher;
import java.util.regex.Pattern;

/** The document once more, written by other means than the class, as slow as it likes. */
final class Model {
    static final long LOST = Long.MIN_VALUE;
    private static final Pattern TEXT = Pattern.compile("t(;[lwp][0-9]{4}){1,6}(,[0-9]{4}){1,4}");
    private static final Pattern JAR = Pattern.compile(";([lwp])([0-9])([0-9])([0-9])([0-9])");
    private static final Pattern DECIDER = Pattern.compile(",([0-9])([0-9])([0-9]{2})");

    static final class Refused extends RuntimeException {
        final long answer;

        Refused(long answer) {
            super(null, null, false, false);
            this.answer = answer;
        }
    }

    static final class Faulty extends RuntimeException {
        final int number;

        Faulty(int number) {
            super(null, null, false, false);
            this.number = number;
        }
    }

    record Jar(int kind, int sure, int fade, int halves, int price) {
        int mark(int t) {
            if (kind == 2) {
                return new Jar(1, sure, fade, halves, price).mark(t) / 2;
            }
            if (kind == 1) {
                return t == 0 ? 0 : new Jar(0, sure, fade, halves, price).mark(t - 1);
            }
            int left = sure;
            for (int minute = 0; minute < t; minute++) {
                left -= fade;
            }
            return left < 0 ? 0 : left;
        }
    }

    record Decider(int need, int when, int purse, int decided) {
    }

    record Reading(int jar, int minute, int mark) {
    }

    List<Jar> jars = new ArrayList<>();
    List<Decider> deciders = new ArrayList<>();
    List<Reading> readings = new ArrayList<>();
    final Object[] sheets = new Object[4];
    int trace = 0;
    int fault = 0;

    long call(String name, int... a) {
        boolean namesFaults = Arrays.asList("store", "year", "guess", "sheet", "put", "cell", "copy", "as").contains(name);
        boolean isLong = name.equals("cell") || name.equals("odds");
        try {
            long answer = answer(name, a);
            fault = namesFaults ? 0 : fault;
            return answer;
        } catch (Refused refused) {
            fault = namesFaults ? 0 : fault;
            return isLong ? LOST : refused.answer;
        } catch (Faulty faulty) {
            fault = faulty.number;
            return isLong ? LOST : -10 - faulty.number;
        }
    }

    private long answer(String name, int[] a) {
        switch (name) {
            case "store": return store(a);
            case "ofJar": jar(a[0]); within(a[1], 0, 5); return ofJar(a[0], a[1]);
            case "ofDecider": decider(a[0]); within(a[1], 0, 3); return ofDecider(a[0], a[1]);
            case "cure": case "fetch": case "price": return changeJar(name, a[0], a[1]);
            case "dread": case "pay": return changeDecider(name, a[0], a[1]);
            case "mark": jar(a[0]); within(a[1], 0, 9); return jars.get(a[0]).mark(a[1]);
            case "blend": stored(); within(a[0], 1, (1 << jars.size()) - 1); within(a[1], 0, 9); return blend(a[0], a[1]);
            case "hold": stored(); within(a[0], 1, (1 << jars.size()) - 1); within(a[1], 0, 9); return hold(a[0], a[1]);
            case "sell": return sell(a[0], a[1]);
            case "year": return year(a);
            case "mix": decider(a[0]); within(a[1], 0, 1); return mix(a[0], a[1]);
            case "like": jar(a[0]); return like(a[0]);
            case "guess": return guess(a);
            case "serve": within(a[0], -1, 3); stored(); return serve(a[0]);
            case "dear": jar(a[0]); return dear(a[0]);
            case "reading": return reading(a);
            case "back": within(a[0], 0, readings.size()); readings.subList(readings.size() - a[0], readings.size()).clear(); return readings.size();
            case "sures": jar(a[0]); return possible(a[0], 10, 1);
            case "fades": jar(a[0]); return possible(a[0], 10, 2);
            case "kinds": jar(a[0]); return possible(a[0], 3, 0);
            case "odds": decider(a[0]); within(a[1], 0, 1); return odds(a[0], a[1]);
            case "sheet": return sheet(a);
            case "lose": sheetThere(a[0]); boolean had = sheets[a[0]] != null; sheets[a[0]] = null; return had ? 1 : 0;
            case "put": sheetThere(a[0]); set(sheets[a[0]], a[1], a[2]); return 1;
            case "cell": sheetThere(a[0]); within(a[2], 0, 2); return cells(a[0], a[2], a[1], 1)[0];
            case "copy": return copy(a);
            case "tell": jar(a[0]); return tell(jars.get(a[0]), jars.get(a[0]).kind());
            case "sniff": jar(a[0]); return sniff(a[0]);
            case "as": return as(a[0], a[1]);
            case "trace": return trace;
            case "fault": return fault;
            case "many": within(a[0], 0, 3); return many(a[0]);
            default: throw new IllegalStateException(name);
        }
    }

    private void jar(int j) {
        if (j < 0 || j >= jars.size()) {
            throw new Refused(-1);
        }
    }

    private void decider(int b) {
        if (b < 0 || b >= deciders.size()) {
            throw new Refused(-1);
        }
    }

    private void sheetThere(int k) {
        if (k < 0 || k > 3) {
            throw new Refused(-1);
        }
    }

    private static void within(int v, int least, int most) {
        if (v < least || v > most) {
            throw new Refused(-2);
        }
    }

    private void stored() {
        if (jars.isEmpty()) {
            throw new Refused(-3);
        }
    }

    private static int lane(Object row) {
        return row instanceof byte[] ? 0 : row instanceof short[] ? 1 : 2;
    }

    /** CAST, NULL, SIZE, INDEX by what the machine itself throws. */
    private int[] cells(int k, int lane, int i, int n) {
        try {
            Object row = sheets[k];
            byte[] bytes = lane == 0 ? (byte[]) row : null;
            short[] shorts = lane == 1 ? (short[]) row : null;
            int[] ints = lane == 2 ? (int[]) row : null;
            row.hashCode();
            int[] taken = new int[Math.min(n, 61)];
            int length = java.lang.reflect.Array.getLength(row);
            if (i < 0 || i > length) {
                throw new IndexOutOfBoundsException();
            }
            for (int c = 0; c < n; c++) {
                if (i + c >= length) {
                    throw new IndexOutOfBoundsException();
                }
                taken[c] = lane == 0 ? bytes[i + c] : lane == 1 ? shorts[i + c] : ints[i + c];
            }
            return taken;
        } catch (ClassCastException e) {
            throw new Faulty(2);
        } catch (NullPointerException e) {
            throw new Faulty(1);
        } catch (NegativeArraySizeException e) {
            throw new Faulty(4);
        } catch (IndexOutOfBoundsException e) {
            throw new Faulty(3);
        }
    }

    private static void set(Object row, int i, int v) {
        try {
            if (row instanceof byte[] bytes) {
                bytes[i] = (byte) v;
            } else if (row instanceof short[] shorts) {
                shorts[i] = (short) v;
            } else {
                ((int[]) row)[i] = v;
            }
        } catch (NullPointerException e) {
            throw new Faulty(1);
        } catch (IndexOutOfBoundsException e) {
            throw new Faulty(3);
        }
    }

    private long sheet(int[] a) {
        sheetThere(a[0]);
        within(a[1], 0, 2);
        if (a[2] > 60) {
            throw new Refused(-2);
        }
        if (a[2] < 0) {
            throw new Faulty(4);
        }
        sheets[a[0]] = a[1] == 0 ? new byte[a[2]] : a[1] == 1 ? new short[a[2]] : new int[a[2]];
        return 1;
    }

    private long copy(int[] a) {
        sheetThere(a[0]);
        sheetThere(a[2]);
        try {
            System.arraycopy(sheets[a[0]], a[1], sheets[a[2]], a[3], a[4]);
        } catch (NullPointerException e) {
            throw new Faulty(1);
        } catch (ArrayStoreException e) {
            throw new Faulty(2);
        } catch (IndexOutOfBoundsException e) {
            throw new Faulty(3);
        }
        return a[4];
    }

    private long store(int[] a) {
        sheetThere(a[0]);
        within(a[1], 0, 2);
        StringBuilder signs = new StringBuilder();
        for (int code : cells(a[0], a[1], a[2], a[3])) {
            signs.append(code > 0 && code < 128 ? (char) code : '?');
        }
        String text = signs.toString();
        if (!TEXT.matcher(text).matches()) {
            return -100 - firstFault(text);
        }
        jars.clear();
        deciders.clear();
        readings.clear();
        for (Matcher m = JAR.matcher(text); m.find(); ) {
            jars.add(new Jar("lwp".indexOf(m.group(1)), Integer.parseInt(m.group(2)), Integer.parseInt(m.group(3)),
                Integer.parseInt(m.group(4)), Integer.parseInt(m.group(5))));
        }
        for (Matcher m = DECIDER.matcher(text); m.find(); ) {
            deciders.add(new Decider(Integer.parseInt(m.group(1)), Integer.parseInt(m.group(2)), Integer.parseInt(m.group(3)), 0));
        }
        return jars.size();
    }

    /** A prefix with which a TEXT goes on either matches or is not matched for want of more. */
    private static int firstFault(String text) {
        for (int p = 0; p < text.length(); p++) {
            Matcher m = TEXT.matcher(text.substring(0, p + 1));
            if (!m.matches() && !m.hitEnd()) {
                return p;
            }
        }
        return text.length();
    }

    private long ofJar(int j, int what) {
        Jar jar = jars.get(j);
        int most = 0;
        for (int t = 0; t < 10; t++) {
            most = Math.max(most, jar.mark(t));
        }
        return new int[] {jar.kind(), jar.sure(), jar.fade(), jar.halves(), jar.price(), most}[what];
    }

    private long ofDecider(int b, int what) {
        Decider d = deciders.get(b);
        return new int[] {d.need(), d.when(), d.purse(), d.decided()}[what];
    }

    private long changeJar(String name, int j, int v) {
        jar(j);
        within(v, 0, 9);
        Jar was = jars.get(j);
        int what = name.equals("cure") ? 1 : name.equals("fetch") ? 3 : 4;
        long answer = ofJar(j, what);
        jars.set(j, with(was, what, v));
        return answer;
    }

    private static Jar with(Jar jar, int what, int v) {
        int[] parts = {jar.kind(), jar.sure(), jar.fade(), jar.halves(), jar.price()};
        parts[what] = v;
        return new Jar(parts[0], parts[1], parts[2], parts[3], parts[4]);
    }

    private long changeDecider(String name, int b, int v) {
        decider(b);
        within(v, 0, name.equals("pay") ? 99 : 9);
        Decider d = deciders.get(b);
        boolean pays = name.equals("pay");
        deciders.set(b, new Decider(pays ? d.need() : v, d.when(), pays ? v : d.purse(), d.decided()));
        return pays ? d.purse() : d.need();
    }

    private List<Jar> jarsOf(int set) {
        List<Jar> some = new ArrayList<>();
        for (int j = 0; j < jars.size(); j++) {
            if ((set & 1 << j) != 0) {
                some.add(jars.get(j));
            }
        }
        return some;
    }

    private int blend(int set, int t) {
        List<Jar> some = jarsOf(set);
        return some.stream().mapToInt(jar -> jar.mark(t)).sum() / some.size();
    }

    private boolean decides(Decider d, int set) {
        return blend(set, d.when()) >= d.need();
    }

    private long hold(int set, int v) {
        int most = 0;
        for (int from = 0; from < 10; from++) {
            for (int to = from; to < 10 && blend(set, to) >= v; to++) {
                most = Math.max(most, to - from + 1);
            }
        }
        return most;
    }

    private long sell(int b, int j) {
        decider(b);
        jar(j);
        Decider d = deciders.get(b);
        Jar jar = jars.get(j);
        if (jar.halves() == 0 || jar.price() > d.purse()) {
            throw new Refused(-3);
        }
        int so = decides(d, 1 << j) ? 1 : 0;
        jars.set(j, with(jar, 3, jar.halves() - 1));
        deciders.set(b, new Decider(d.need(), d.when(), d.purse() - jar.price(), d.decided() + so));
        return so;
    }

    private long year(int[] a) {
        sheetThere(a[0]);
        within(a[1], 0, 2);
        within(a[3], 0, 20);
        int what = a[4];
        if (!(what >= 0 && what <= 3 || what >= 10 && what <= 15 || what >= 20 && what <= 23)) {
            throw new Refused(-2);
        }
        stored();
        int[] row = cells(a[0], a[1], a[2], 2 * a[3]);
        for (int c = 0; c < row.length; c++) {
            if (row[c] < 0 || row[c] >= (c % 2 == 0 ? deciders.size() : jars.size())) {
                throw new Refused(-1);
            }
        }
        List<Jar> jarsNow = new ArrayList<>(jars);
        List<Decider> decidersNow = new ArrayList<>(deciders);
        try {
            return yearSold(row, what);
        } finally {
            jars = jarsNow;
            deciders = decidersNow;
        }
    }

    private long yearSold(int[] row, int what) {
        jars = new ArrayList<>(jars);
        deciders = new ArrayList<>(deciders);
        int purses = deciders.stream().mapToInt(Decider::purse).sum();
        int count = 0;
        for (int p = 0; p < row.length / 2; p++) {
            try {
                count += sell(row[2 * p], row[2 * p + 1]);
            } catch (Refused refused) {
                return what == 1 ? p : -100 - p;
            }
        }
        int empty = 0;
        for (int j = 0; j < jars.size(); j++) {
            empty += jars.get(j).halves() == 0 ? 1 << j : 0;
        }
        if (what >= 20) {
            return what - 20 < deciders.size() ? deciders.get(what - 20).purse() : -9;
        }
        if (what >= 10) {
            return what - 10 < jars.size() ? jars.get(what - 10).halves() : -9;
        }
        return new int[] {count, -9, purses - deciders.stream().mapToInt(Decider::purse).sum(), empty}[what];
    }

    private int pence(int set) {
        return jarsOf(set).stream().mapToInt(Jar::price).sum();
    }

    private boolean isStocked(int set) {
        return jarsOf(set).stream().allMatch(jar -> jar.halves() > 0);
    }

    private List<Integer> allSets() {
        List<Integer> sets = new ArrayList<>();
        for (int set = 1; set < 1 << jars.size(); set++) {
            sets.add(set);
        }
        return sets;
    }

    private long mix(int b, int what) {
        Decider d = deciders.get(b);
        ToIntFunction<Integer> pence = this::pence;
        int set = allSets().stream()
            .filter(s -> isStocked(s) && pence(s) <= d.purse() && decides(d, s))
            .min(Comparator.comparingInt(pence).thenComparingInt(Integer::bitCount).thenComparingInt(s -> s)).orElse(-9);
        return set == -9 || what == 1 ? set : pence(set);
    }

    private int[] marks(int set) {
        int[] row = new int[10];
        Arrays.setAll(row, t -> blend(set, t));
        return row;
    }

    private long like(int j) {
        return allSets().stream().filter(s -> (s & 1 << j) == 0 && Arrays.equals(marks(s), marks(1 << j)))
            .min(Comparator.<Integer>comparingInt(Integer::bitCount).thenComparingInt(s -> s)).orElse(-9);
    }

    private long guess(int[] a) {
        sheetThere(a[0]);
        within(a[1], 0, 2);
        within(a[3], 0, 10);
        within(a[4], 0, 2);
        stored();
        int[] row = cells(a[0], a[1], a[2], a[3]);
        List<Integer> fit = allSets().stream().filter(s -> Arrays.equals(Arrays.copyOf(marks(s), row.length), row)).toList();
        if (a[4] == 0) {
            return fit.stream().filter(s -> Integer.bitCount(s) == 1).mapToInt(s -> s).sum();
        }
        List<Integer> pairs = fit.stream().filter(s -> Integer.bitCount(s) == 2).toList();
        return a[4] == 1 ? pairs.size() : pairs.isEmpty() ? -9 : pairs.get(0);
    }

    /** Every row of jars (none is the number behind all jars), from the first on. */
    private int[] served() {
        int none = jars.size();
        int rows = (int) Math.pow(none + 1, deciders.size());
        int[] best = null;
        int most = -1;
        for (int number = 0; number < rows; number++) {
            int[] row = new int[deciders.size()];
            int[] taken = new int[none + 1];
            boolean can = true;
            int count = 0;
            for (int b = row.length - 1, rest = number; b >= 0; b--, rest /= none + 1) {
                row[b] = rest % (none + 1);
                taken[row[b]]++;
            }
            for (int b = 0; b < row.length && can; b++) {
                if (row[b] < none) {
                    Jar jar = jars.get(row[b]);
                    can = taken[row[b]] <= jar.halves() && jar.price() <= deciders.get(b).purse();
                    count += jar.mark(deciders.get(b).when()) >= deciders.get(b).need() ? 1 : 0;
                }
            }
            if (can && count > most) {
                most = count;
                best = row;
            }
        }
        int[] answer = new int[5];
        Arrays.fill(answer, -9);
        answer[0] = most;
        for (int b = 0; b < best.length; b++) {
            answer[b + 1] = best[b] == none ? -9 : best[b];
        }
        return answer;
    }

    private long serve(int k) {
        return served()[k + 1];
    }

    private long dear(int j) {
        Jar now = jars.get(j);
        int enough = served()[0];
        int most = -1;
        for (int v = 0; v < 10; v++) {
            jars.set(j, with(now, 4, v));
            most = served()[0] >= enough ? v : most;
        }
        jars.set(j, now);
        return most;
    }

    private long reading(int[] a) {
        jar(a[0]);
        within(a[1], 0, 9);
        within(a[2], 0, 9);
        if (readings.size() == 8) {
            throw new Refused(-4);
        }
        readings.add(new Reading(a[0], a[1], a[2]));
        return readings.size() - 1;
    }

    private long possible(int j, int end, int what) {
        Jar now = jars.get(j);
        int set = 0;
        for (int v = 0; v < end; v++) {
            jars.set(j, with(now, what, v));
            set += readings.stream().allMatch(r -> jars.get(r.jar()).mark(r.minute()) == r.mark()) ? 1 << v : 0;
        }
        jars.set(j, now);
        return set;
    }

    private long odds(int b, int which) {
        List<Integer> all = allSets().stream().filter(this::isStocked).toList();
        int good = (int) all.stream().filter(s -> decides(deciders.get(b), s)).count();
        if (all.isEmpty()) {
            return which;
        }
        int shared = java.math.BigInteger.valueOf(good).gcd(java.math.BigInteger.valueOf(all.size())).intValue();
        return (which == 0 ? good : all.size()) / shared;
    }

    private int tell(Jar jar, int kind) {
        trace = 31 * trace + kind + 1;
        if (kind == 0) {
            return jar.sure();
        }
        return kind == 1 ? tell(jar, 0) + 100 : tell(jar, 1) + tell(jar, 0);
    }

    private long sniff(int j) {
        boolean plug = jars.get(j).kind() == 2;
        trace = 31 * trace + (plug ? 5 : 4);
        return plug ? 80 : j;
    }

    private long as(int j, int kind) {
        jar(j);
        within(kind, 0, 2);
        if (kind > jars.get(j).kind()) {
            throw new Faulty(2);
        }
        return 1;
    }

    private long many(int what) {
        int halves = jars.stream().mapToInt(Jar::halves).sum();
        return new int[] {jars.size(), deciders.size(), halves, readings.size()}[what];
    }
}
