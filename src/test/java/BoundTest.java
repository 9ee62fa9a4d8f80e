import java.util.function.Supplier;

/** Promises 3 to 25: each number at its bounds, one below and one above; the empty and the full case. */
public final class BoundTest {
    private static final Check check = new Check("BoundTest");
    private static final long LOST = Long.MIN_VALUE;
    private static final int UNKNOWN = -1, OUTSIDE = -2, STATE = -3, FULL = -4, NONE = -9;
    private static final String ONE = "t;l9312,4105";
    private static final String FULL_STORE = "t;l9099;w9199;p9299;l8399;w7499;p6999,9199,8299,7399,0999";

    interface Call {
        long on(LastJars x, int v);
    }

    public static void main(String[] args) {
        numbersOfJarsAndDeciders();
        numbersOfSheets();
        lanes();
        parts();
        changes();
        marks();
        blends();
        holds();
        sales();
        yearNumbers();
        yearCells();
        yearWrongs();
        mixes();
        likes();
        guesses();
        services();
        dears();
        readings();
        backs();
        sets();
        shares();
        calls();
        check.end();
    }

    /** At both bounds the call answers as due; one beyond each, and far beyond, it is refused and changes nothing. */
    private static void bound(String name, Supplier<LastJars> made, int least, int most, long refusal, Call call) {
        for (int v : new int[] {least - 1, most + 1, Integer.MIN_VALUE, Integer.MAX_VALUE}) {
            LastJars x = made.get();
            check.due(name + " " + v, refusal, () -> call.on(x, v));
            check.holds(name + " " + v + " changed something", Look.at(made.get()).equals(Look.at(x)));
        }
        for (int v = least; v <= most; v++) {
            long answer = call.on(made.get(), v);
            check.holds(name + " " + v + " answered " + answer, answer >= 0 || answer == NONE || answer == STATE);
        }
    }

    private static LastJars one() {
        return Check.shop(ONE);
    }

    private static LastJars full() {
        return Check.shop(FULL_STORE);
    }

    private static LastJars without() {
        return new LastJars();
    }

    private static void numbersOfJarsAndDeciders() {
        check.promise("3 .. 33: numbers of jars and deciders");
        int jars = 0;
        for (Supplier<LastJars> made : java.util.List.<Supplier<LastJars>>of(BoundTest::without, BoundTest::one, BoundTest::full)) {
            int last = jars - 1;
            bound("ofJar", made, 0, last, UNKNOWN, (x, j) -> x.ofJar(j, 0));
            bound("cure", made, 0, last, UNKNOWN, (x, j) -> x.cure(j, 5));
            bound("fetch", made, 0, last, UNKNOWN, (x, j) -> x.fetch(j, 5));
            bound("price", made, 0, last, UNKNOWN, (x, j) -> x.price(j, 5));
            bound("mark", made, 0, last, UNKNOWN, (x, j) -> x.mark(j, 0));
            bound("sell: jar", made, 0, last, UNKNOWN, (x, j) -> x.sell(0, j));
            bound("like", made, 0, last, UNKNOWN, LastJars::like);
            bound("dear", made, 0, last, UNKNOWN, LastJars::dear);
            bound("reading", made, 0, last, UNKNOWN, (x, j) -> x.reading(j, 0, 0));
            bound("sures", made, 0, last, UNKNOWN, LastJars::sures);
            bound("fades", made, 0, last, UNKNOWN, LastJars::fades);
            bound("kinds", made, 0, last, UNKNOWN, LastJars::kinds);
            bound("tell", made, 0, last, UNKNOWN, LastJars::tell);
            bound("sniff", made, 0, last, UNKNOWN, LastJars::sniff);
            bound("as", made, 0, last, UNKNOWN, (x, j) -> x.as(j, 0));
            int lastDecider = jars == 6 ? 3 : last;
            bound("ofDecider", made, 0, lastDecider, UNKNOWN, (x, b) -> x.ofDecider(b, 0));
            bound("dread", made, 0, lastDecider, UNKNOWN, (x, b) -> x.dread(b, 5));
            bound("pay", made, 0, lastDecider, UNKNOWN, (x, b) -> x.pay(b, 5));
            bound("sell: decider", made, 0, lastDecider, UNKNOWN, (x, b) -> x.sell(b, 0));
            bound("mix", made, 0, lastDecider, UNKNOWN, (x, b) -> x.mix(b, 0));
            bound("odds", made, 0, lastDecider, LOST, (x, b) -> x.odds(b, 0));
            jars = jars == 0 ? 1 : 6;
        }
    }

    /** All sheets are of one lane, and of four cells that are 0. */
    private static LastJars ofLane(int lane) {
        LastJars x = one();
        for (int k = 0; k < 4; k++) {
            x.sheet(k, lane, 4);
        }
        return x;
    }

    private static void numbersOfSheets() {
        check.promise("2 .. 30: numbers of sheets");
        Supplier<LastJars> made = () -> ofLane(1);
        bound("year", made, 0, 3, UNKNOWN, (x, k) -> x.year(k, 1, 0, 1, 0));
        bound("guess", made, 0, 3, UNKNOWN, (x, k) -> x.guess(k, 1, 0, 1, 0));
        bound("sheet", made, 0, 3, UNKNOWN, (x, k) -> x.sheet(k, 1, 0));
        bound("lose", made, 0, 3, UNKNOWN, LastJars::lose);
        bound("put", made, 0, 3, UNKNOWN, (x, k) -> x.put(k, 0, 1));
        bound("cell", made, 0, 3, LOST, (x, k) -> x.cell(k, 0, 1));
        bound("copy from", made, 0, 3, UNKNOWN, (x, k) -> x.copy(k, 0, 0, 0, 4));
        bound("copy to", made, 0, 3, UNKNOWN, (x, k) -> x.copy(0, 0, k, 0, 4));
        for (int k : new int[] {-1, 4, Integer.MIN_VALUE, Integer.MAX_VALUE}) {
            check.due("store " + k, UNKNOWN, made.get().store(k, 1, 0, 4));
        }
        for (int k = 0; k < 4; k++) {
            check.due("store " + k, -100, made.get().store(k, 1, 0, 4));
        }
    }

    private static void lanes() {
        check.promise("2 .. 30: lanes");
        for (int lane = 0; lane < 3; lane++) {
            LastJars x = ofLane(lane);
            for (int as : new int[] {-1, 0, 1, 2, 3, Integer.MIN_VALUE, Integer.MAX_VALUE}) {
                int refusal = as < 0 || as > 2 ? OUTSIDE : as == lane ? 0 : -12;
                String told = " of lane " + lane + " as of " + as;
                check.due("store" + told, refusal == 0 ? -100 : refusal, x.store(3, as, 0, 4));
                check.due("fault()", refusal == -12 ? 2 : 0, x.fault());
                check.due("year" + told, refusal == 0 ? 1 : refusal, x.year(3, as, 0, 1, 0));
                check.due("fault()", refusal == -12 ? 2 : 0, x.fault());
                check.due("guess" + told, refusal, x.guess(3, as, 0, 4, 0));
                check.due("fault()", refusal == -12 ? 2 : 0, x.fault());
                check.due("cell" + told, refusal == 0 ? 0 : LOST, x.cell(3, 3, as));
                check.due("fault()", refusal == -12 ? 2 : 0, x.fault());
            }
        }
        for (int lane : new int[] {-1, 3, Integer.MIN_VALUE, Integer.MAX_VALUE}) {
            check.due("sheet", OUTSIDE, one().sheet(0, lane, 1));
        }
    }

    private static void parts() {
        check.promise("3 ofJar");
        bound("what", BoundTest::full, 0, 5, OUTSIDE, (x, what) -> x.ofJar(5, what));
        int[] last = {2, 6, 9, 9, 9, 3};
        for (int what = 0; what < 6; what++) {
            check.due("of the sixth: " + what, last[what], full().ofJar(5, what));
        }
        check.promise("4 ofDecider");
        bound("what", BoundTest::full, 0, 3, OUTSIDE, (x, what) -> x.ofDecider(3, what));
        LastJars x = Check.shop("t;l9090,9000");
        for (int often = 1; often <= 20; often++) {
            x.fetch(0, 1);
            check.due("sold", 1, x.sell(0, 0));
            check.due("decided", often, x.ofDecider(0, 3));
        }
    }

    private static void changes() {
        check.promise("5 cure");
        bound("v", BoundTest::one, 0, 9, OUTSIDE, (x, v) -> x.cure(0, v));
        check.promise("6 fetch");
        bound("v", BoundTest::one, 0, 9, OUTSIDE, (x, v) -> x.fetch(0, v));
        check.promise("7 price");
        bound("v", BoundTest::one, 0, 9, OUTSIDE, (x, v) -> x.price(0, v));
        check.promise("8 dread");
        bound("v", BoundTest::one, 0, 9, OUTSIDE, (x, v) -> x.dread(0, v));
        check.promise("9 pay");
        bound("v", BoundTest::one, 0, 99, OUTSIDE, (x, v) -> x.pay(0, v));
        check.promise("5 .. 9: what it was, what it becomes");
        LastJars x = full();
        int[] was = {6, 9, 9, 0, 99};
        for (int v = 0; v < 10; v++) {
            check.due("cure", was[0], x.cure(5, v));
            check.due("fetch", was[1], x.fetch(5, v));
            check.due("price", was[2], x.price(5, v));
            check.due("dread", was[3], x.dread(3, v));
            check.due("pay", was[4], x.pay(3, v * 11));
            was = new int[] {v, v, v, v, v * 11};
            for (int what : new int[] {1, 3, 4}) {
                check.due("ofJar " + what, v, x.ofJar(5, what));
            }
            check.due("NEED", v, x.ofDecider(3, 0));
            check.due("PURSE", v * 11, x.ofDecider(3, 2));
            check.due("FADE is not touched", 9, x.ofJar(5, 2));
            check.due("WHEN is not touched", 9, x.ofDecider(3, 1));
            check.due("the JAR ahead of it is not touched", 7499, digits(x, 4));
        }
    }

    private static int digits(LastJars x, int j) {
        return 1000 * x.ofJar(j, 1) + 100 * x.ofJar(j, 2) + 10 * x.ofJar(j, 3) + x.ofJar(j, 4);
    }

    private static void marks() {
        check.promise("10 mark");
        bound("minute", BoundTest::full, 0, 9, OUTSIDE, (x, t) -> x.mark(0, t));
        for (int sure = 0; sure < 10; sure++) {
            for (int fade = 0; fade < 10; fade++) {
                String digits = "" + sure + fade + "00";
                LastJars x = Check.shop("t;l" + digits + ";w" + digits + ";p" + digits + ",0000");
                for (int t = 0; t < 10; t++) {
                    int leaf = sure < fade * t ? 0 : sure - fade * t;
                    int twist = t == 0 ? 0 : sure < fade * (t - 1) ? 0 : sure - fade * (t - 1);
                    check.due("leaf " + digits + " in " + t, leaf, x.mark(0, t));
                    check.due("twist " + digits + " in " + t, twist, x.mark(1, t));
                    check.due("plug " + digits + " in " + t, (twist - twist % 2) / 2, x.mark(2, t));
                }
                check.due("the greatest: leaf", sure, x.ofJar(0, 5));
                check.due("the greatest: twist", sure, x.ofJar(1, 5));
                check.due("the greatest: plug", sure / 2, x.ofJar(2, 5));
            }
        }
    }

    private static void blends() {
        check.promise("11 blend");
        bound("set of one", BoundTest::one, 1, 1, OUTSIDE, (x, set) -> x.blend(set, 0));
        bound("set of six", BoundTest::full, 1, 63, OUTSIDE, (x, set) -> x.blend(set, 0));
        bound("minute", BoundTest::full, 0, 9, OUTSIDE, (x, t) -> x.blend(63, t));
        bound("without a store", BoundTest::without, 1, 0, STATE, (x, set) -> x.blend(set, 0));
        for (int bit = 6; bit < 32; bit++) {
            check.due("jar " + bit + " and the first", OUTSIDE, full().blend(1 << bit | 1, 0));
        }
        check.due("9 0 0 8 0 0 by 6", 2, full().blend(63, 0));
        check.due("9 9 4 5 7 3 by 6", 6, full().blend(63, 1));
        LastJars cut = Check.shop("t;l5000;l5000;l4000,0000");
        check.due("14 by 3 is cut", 4, cut.blend(7, 0));
        cut.cure(2, 5);
        check.due("15 by 3", 5, cut.blend(7, 0));
    }

    private static void holds() {
        check.promise("12 hold");
        bound("set of one", BoundTest::one, 1, 1, OUTSIDE, (x, set) -> x.hold(set, 0));
        bound("set of six", BoundTest::full, 1, 63, OUTSIDE, (x, set) -> x.hold(set, 0));
        bound("v", BoundTest::full, 0, 9, OUTSIDE, (x, v) -> x.hold(63, v));
        bound("without a store", BoundTest::without, 1, 0, STATE, (x, set) -> x.hold(set, 0));
        LastJars x = Check.shop("t;l9000;w9000;l9100;l0000,0000");
        check.due("all ten, by the greatest", 10, x.hold(1, 9));
        check.due("all but minute 0", 9, x.hold(2, 9));
        check.due("the first alone", 1, x.hold(4, 9));
        check.due("all ten of 9 .. 0 by 0", 10, x.hold(4, 0));
        check.due("nine of 9 .. 1 by 1", 9, x.hold(4, 1));
        check.due("none", 0, x.hold(8, 1));
        check.due("all ten of 0 by 0", 10, x.hold(8, 0));
    }

    private static void sales() {
        check.promise("13 sell");
        LastJars x = Check.shop("t;l5093;l5013;l5003,5012,6099,4099,5003");
        for (int left = 8; left >= 5; left--) {
            check.due("paid by 3 of 12", 1, x.sell(0, 0));
            check.due("left", left, x.ofJar(0, 3));
            check.due("purse", 3 * (left - 5), x.ofDecider(0, 2));
        }
        check.due("3 is above 0", STATE, x.sell(0, 0));
        x.pay(0, 2);
        check.due("3 is above 2", STATE, x.sell(0, 0));
        x.pay(0, 3);
        check.due("3 is not above 3", 1, x.sell(0, 0));
        check.due("the last half ounce", 1, x.sell(3, 1));
        check.due("none is left behind it", STATE, x.sell(1, 1));
        check.due("none was left at all", STATE, x.sell(1, 2));
        check.due("NEED 6, MARK 5", 0, x.sell(1, 0));
        check.due("NEED 4, MARK 5", 1, x.sell(2, 0));
        check.due("who did not decide paid", 96, x.ofDecider(1, 2));
        check.due("who did not decide did not", 0, x.ofDecider(1, 3));
        LastJars free = Check.shop("t;l5010,5000");
        check.due("PRICE 0 of PURSE 0", 1, free.sell(0, 0));
        check.due("PURSE 0 still", 0, free.ofDecider(0, 2));
        check.due("none is left", STATE, free.sell(0, 0));
        check.due("it is as it was", 0, free.ofJar(0, 3));
        check.due("decided once", 1, free.ofDecider(0, 3));
    }

    /** 20 pairs from cell 20 on, to the last one of 60 cells. */
    private static LastJars yearly() {
        LastJars x = Check.shop("t;l9091;l9091;l9091,9099");
        x.sheet(0, 0, 60);
        for (int pair = 0; pair < 20; pair++) {
            x.put(0, 20 + 2 * pair + 1, pair % 3);
        }
        return x;
    }

    private static void yearNumbers() {
        check.promise("14 year: numbers");
        bound("n", BoundTest::yearly, 0, 20, OUTSIDE, (x, n) -> x.year(0, 0, 20, n, 0));
        for (int what = -3; what < 40; what++) {
            boolean told = what >= 0 && what <= 3 || what >= 10 && what <= 15 || what >= 20 && what <= 23;
            int w = what;
            check.holds("what " + what, told == (yearly().year(0, 0, 20, 1, w) != OUTSIDE));
        }
        LastJars x = yearly();
        check.due("20 pairs decide", 20, x.year(0, 0, 20, 20, 0));
        check.due("20 pence", 20, x.year(0, 0, 20, 20, 2));
        check.due("79 are left", 79, x.year(0, 0, 20, 20, 20));
        check.due("nobody 1", NONE, x.year(0, 0, 20, 20, 21));
        check.due("nobody 3", NONE, x.year(0, 0, 20, 20, 23));
        check.due("jar 2", 3, x.year(0, 0, 20, 20, 12));
        check.due("no jar 3", NONE, x.year(0, 0, 20, 20, 13));
        check.due("no jar 5", NONE, x.year(0, 0, 20, 20, 15));
        check.due("none is empty", 0, x.year(0, 0, 20, 20, 3));
        x.fetch(0, 7);
        check.due("jar 0 is empty then", 1, x.year(0, 0, 20, 20, 3));
        LastJars six = full();
        six.sheet(0, 2, 0);
        check.due("no pairs: jar 5", 9, six.year(0, 2, 0, 0, 15));
        check.due("no pairs: decider 3", 99, six.year(0, 2, 0, 0, 23));
        check.due("no pairs: decide", 0, six.year(0, 2, 0, 0, 0));
        check.due("no pairs: first wrong", NONE, six.year(0, 2, 0, 0, 1));
        check.due("no pairs: pence", 0, six.year(0, 2, 0, 0, 2));
        for (int j = 0; j < 6; j++) {
            six.fetch(j, 0);
        }
        check.due("no pairs: all six are empty", 63, six.year(0, 2, 0, 0, 3));
    }

    private static void yearCells() {
        check.promise("14 year: INDEX");
        check.due("to the last cell", 20, yearly().year(0, 0, 20, 20, 0));
        check.due("one cell on", -13, yearly().year(0, 0, 21, 20, 0));
        check.due("half a pair at the end", -13, yearly().year(0, 0, 59, 1, 0));
        check.due("the last pair", 1, yearly().year(0, 0, 58, 1, 0));
        check.due("none, behind all", 0, yearly().year(0, 0, 60, 0, 0));
        check.due("none, one on", -13, yearly().year(0, 0, 61, 0, 0));
        check.due("none, from -1 on", -13, yearly().year(0, 0, -1, 0, 0));
        check.due("far on", -13, yearly().year(0, 0, Integer.MAX_VALUE, 20, 0));
        check.due("far ahead", -13, yearly().year(0, 0, Integer.MIN_VALUE, 20, 0));
        LastJars x = yearly();
        x.sheet(1, 1, 39);
        check.due("20 pairs of 39 cells", -13, x.year(1, 1, 0, 20, 0));
        check.due("19 pairs of 39 cells", -109, x.year(1, 1, 0, 19, 0));
        x.sheet(1, 1, 40);
        check.due("20 pairs of 40 cells", -109, x.year(1, 1, 0, 20, 0));
        check.due("20 pairs of 40 cells, from 1 on", -13, x.year(1, 1, 1, 20, 0));
        x.sheet(1, 2, 0);
        check.due("none of no cells", 0, x.year(1, 2, 0, 0, 0));
        check.due("none of no cells, one on", -13, x.year(1, 2, 1, 0, 0));
        check.due("one of no cells", -13, x.year(1, 2, 0, 1, 0));
    }

    private static void yearWrongs() {
        check.promise("14 year: first wrong");
        int[] whats = {0, 1, 2, 3, 10, 15, 20, 23};
        for (int wrong = 0; wrong < 20; wrong++) {
            LastJars x = Check.shop("t;l9090;l9090;l9090;l9000,9099");
            x.sheet(0, 0, 40);
            for (int pair = 0; pair < 20; pair++) {
                x.put(0, 2 * pair + 1, pair == wrong ? 3 : pair % 3);
            }
            for (int what : whats) {
                check.due("wrong " + wrong + " what " + what, what == 1 ? wrong : -100 - wrong, x.year(0, 0, 0, 20, what));
            }
            check.due("ahead of it none is wrong", NONE, x.year(0, 0, 0, wrong, 1));
            check.due("with it one is", wrong, x.year(0, 0, 0, wrong + 1, 1));
            x.put(0, 2 * wrong, 1);
            check.due("a cell that is no decider", UNKNOWN, x.year(0, 0, 0, 20, 1));
            x.put(0, 2 * wrong, 0);
            x.put(0, 2 * wrong + 1, 4);
            check.due("a cell that is no jar", UNKNOWN, x.year(0, 0, 0, 20, 1));
        }
        LastJars purse = Check.shop("t;l9091,9003");
        purse.sheet(0, 0, 10);
        check.due("purse 3 pays thrice", 3, purse.year(0, 0, 0, 5, 1));
        check.due("three", 0, purse.year(0, 0, 0, 3, 20));
        purse.pay(0, 4);
        check.due("purse 4 pays four times", 4, purse.year(0, 0, 0, 5, 1));
        purse.pay(0, 9);
        purse.fetch(0, 4);
        check.due("four are left", 4, purse.year(0, 0, 0, 5, 1));
        check.due("four", 0, purse.year(0, 0, 0, 4, 10));
    }

    private static void mixes() {
        check.promise("15 mix");
        bound("what", BoundTest::full, 0, 1, OUTSIDE, (x, what) -> x.mix(0, what));
        LastJars x = Check.shop("t;l5013,5003");
        check.due("MARK is NEED, PRICE is PURSE, one is left", 3, x.mix(0, 0));
        x.dread(0, 6);
        check.due("NEED is one more", NONE, x.mix(0, 0));
        check.due("NEED is one more", NONE, x.mix(0, 1));
        x.dread(0, 5);
        x.pay(0, 2);
        check.due("PURSE is one less", NONE, x.mix(0, 1));
        x.pay(0, 3);
        x.fetch(0, 0);
        check.due("none is left", NONE, x.mix(0, 1));
        LastJars six = Check.shop("t;l9019;l9019;l9019;l9019;l9019;l9018,9099");
        check.due("the sixth", 32, six.mix(0, 1));
        six.fetch(5, 0);
        check.due("of five the first", 1, six.mix(0, 1));
        six.price(0, 0);
        six.cure(0, 0);
        check.due("not with a free one blended in", 2, six.mix(0, 1));
        six.dread(0, 0);
        check.due("by NEED 0 whatever costs least", 1, six.mix(0, 1));
        check.due("0 pence", 0, six.mix(0, 0));
    }

    private static void likes() {
        check.promise("16 like");
        check.due("there is no other jar", NONE, one().like(0));
        LastJars six = Check.shop("t;l5000;l5000;l5000;l5000;l5000;l5000,0000");
        check.due("the first of five", 2, six.like(0));
        check.due("the first of five", 1, six.like(5));
        LastJars last = Check.shop("t;l9100;l9000;l8100;l9100,0000");
        check.due("the same in minute 9, too", 8, last.like(0));
        LastJars five = Check.shop("t;l2000;l9000;l0000;l0000;l0000;l1000,0000");
        check.due("9 0 0 1 by 4, 9 0 0 0 by 4, not by 2, 3, 5", 30, five.like(0));
        LastJars all = Check.shop("t;l2000;l8000;l1000;l1000;l0000;l0000,0000");
        check.due("8 0 0 by 3, before 8 1 1 0 by 4 and all five", 50, all.like(0));
    }

    private static LastJars guessing() {
        LastJars x = full();
        x.sheet(0, 1, 60);
        return x;
    }

    private static void guesses() {
        check.promise("17 guess");
        bound("n", BoundTest::guessing, 0, 10, OUTSIDE, (x, n) -> x.guess(0, 1, 0, n, 0));
        bound("what", BoundTest::guessing, 0, 2, OUTSIDE, (x, what) -> x.guess(0, 1, 0, 10, what));
        LastJars x = guessing();
        check.due("from 50 on ten", 0, x.guess(0, 1, 50, 10, 0));
        check.due("from 51 on ten", -13, x.guess(0, 1, 51, 10, 0));
        check.due("from 60 on none", 63, x.guess(0, 1, 60, 0, 0));
        check.due("from 60 on none: pairs", 15, x.guess(0, 1, 60, 0, 1));
        check.due("from 60 on none: the least", 3, x.guess(0, 1, 60, 0, 2));
        check.due("from 61 on none", -13, x.guess(0, 1, 61, 0, 0));
        check.due("from -1 on none", -13, x.guess(0, 1, -1, 0, 0));
        check.due("from 60 on one", -13, x.guess(0, 1, 60, 1, 0));
        check.due("far on", -13, x.guess(0, 1, Integer.MAX_VALUE, 10, 0));
        check.due("0 in minute 0", 54, x.guess(0, 1, 0, 1, 0));
        Check.lay(x, 0, 1, 4, 9);
        check.due("9 0 by 2, 9 9 by 2", 3, x.guess(0, 1, 0, 2, 2));
        check.due("one pair", 1, x.guess(0, 1, 0, 2, 1));
        Check.lay(x, 0, 2, 0, 9, 8, 7, 6, 5, 4, 3, 2, 1);
        check.due("all ten of one", 2, x.guess(0, 2, 0, 10, 0));
        check.due("no pair", 0, x.guess(0, 2, 0, 10, 1));
        check.due("no least pair", NONE, x.guess(0, 2, 0, 10, 2));
        x.put(0, 9, 0);
        check.due("all but the tenth", 0, x.guess(0, 2, 0, 10, 0));
        check.due("nine of them", 2, x.guess(0, 2, 0, 9, 0));
        Check.lay(x, 0, 2, 65536 + 9, -1, 10);
        for (int i = 0; i < 3; i++) {
            check.due("no such MARK", 0, x.guess(0, 2, i, 1, 0));
            check.due("no such MARK of pairs", NONE, x.guess(0, 2, i, 1, 2));
        }
        LastJars single = one();
        single.sheet(0, 0, 0);
        check.due("one jar makes no pair", 0, single.guess(0, 0, 0, 0, 1));
        check.due("one jar makes no least pair", NONE, single.guess(0, 0, 0, 0, 2));
    }

    private static void services() {
        check.promise("18 serve");
        bound("k of four", BoundTest::full, -1, 3, OUTSIDE, LastJars::serve);
        bound("k of one", BoundTest::one, -1, 3, OUTSIDE, LastJars::serve);
        for (int k = -1; k < 4; k++) {
            check.due("without a store", STATE, without().serve(k));
        }
        for (int k = 1; k < 4; k++) {
            check.due("there is no such decider", NONE, one().serve(k));
        }
        LastJars x = Check.shop("t;l5013,5003");
        check.due("MARK is NEED, PRICE is PURSE, one is left", 1, x.serve(-1));
        check.due("jar 0", 0, x.serve(0));
        x.dread(0, 6);
        check.due("NEED is one more", 0, x.serve(-1));
        check.due("it can be SOLD to them all the same", 0, x.serve(0));
        x.pay(0, 2);
        check.due("PURSE is one less", NONE, x.serve(0));
        x.pay(0, 3);
        x.fetch(0, 0);
        check.due("none is left", NONE, x.serve(0));
        LastJars all = Check.shop("t;l0009;l0009;l0009;l0009;l9009;l9049,9009,9009,9009,9009");
        check.due("all four by the sixth", 4, all.serve(-1));
        for (int k = 0; k < 4; k++) {
            check.due("the sixth", 5, all.serve(k));
        }
        all.fetch(5, 3);
        check.due("three by the sixth", 3, all.serve(-1));
        check.due("none for the last", NONE, all.serve(3));
    }

    private static void dears() {
        check.promise("19 dear");
        for (int purse = 0; purse < 12; purse++) {
            LastJars x = Check.shop("t;l9010,9000");
            x.pay(0, purse);
            check.due("up to a PURSE of " + purse, Math.min(9, purse), x.dear(0));
            check.due("its PRICE is its own", 0, x.ofJar(0, 4));
            x.price(0, 9);
            check.due("9 already", 9, x.dear(0));
        }
        LastJars none = Check.shop("t;l9000,9000");
        check.due("nobody decides now", 9, none.dear(0));
    }

    private static void readings() {
        check.promise("20 reading");
        bound("minute", BoundTest::one, 0, 9, OUTSIDE, (x, t) -> x.reading(0, t, 0));
        bound("mark", BoundTest::one, 0, 9, OUTSIDE, (x, v) -> x.reading(0, 0, v));
        LastJars x = full();
        for (int r = 0; r < 8; r++) {
            check.due("how many ahead of it", r, x.many(3));
            check.due("its number", r, x.reading(r % 6, 9, 9));
        }
        check.due("the ninth", FULL, x.reading(0, 9, 9));
        check.due("eight", 8, x.many(3));
        check.due("one is taken back", 7, x.back(1));
        check.due("the eighth again", 7, x.reading(0, 9, 9));
        check.due("the ninth again", FULL, x.reading(0, 9, 9));
        check.due("all are taken back", 0, x.back(8));
        check.due("the first again", 0, x.reading(0, 0, 9));
    }

    private static LastJars read() {
        LastJars x = full();
        for (int r = 0; r < 8; r++) {
            x.reading(0, 0, 9);
        }
        return x;
    }

    private static void backs() {
        check.promise("21 back");
        bound("k of eight", BoundTest::read, 0, 8, OUTSIDE, LastJars::back);
        bound("k of none", BoundTest::one, 0, 0, OUTSIDE, LastJars::back);
        bound("k without a store", BoundTest::without, 0, 0, OUTSIDE, LastJars::back);
        for (int k = 0; k < 9; k++) {
            LastJars x = read();
            check.due("left", 8 - k, x.back(k));
            check.due("many(3)", 8 - k, x.many(3));
        }
    }

    private static void sets() {
        check.promise("22 .. 24: sets");
        LastJars x = Check.shop("t;l9000;w9000;p9000,0000");
        for (int j = 0; j < 3; j++) {
            check.due("no readings: sures", 1023, x.sures(j));
            check.due("no readings: fades", 1023, x.fades(j));
            check.due("no readings: kinds", 7, x.kinds(j));
        }
        for (int v = 0; v < 10; v++) {
            x.reading(0, 0, v);
            check.due("leaf: just it", 1 << v, x.sures(0));
            x.back(1);
            x.reading(1, 9, v);
            check.due("twist: just it", 1 << v, x.sures(1));
            x.back(1);
            x.reading(2, 1, v);
            check.due("plug: two of them, or none", v < 5 ? 3 << 2 * v : 0, x.sures(2));
            x.back(1);
            x.reading(0, 1, v);
            check.due("leaf: 9 less it", 1 << 9 - v, x.fades(0));
            x.back(1);
        }
        for (int r = 0; r < 8; r++) {
            x.reading(0, r, 9);
        }
        check.due("eight that are so: sures", 512, x.sures(0));
        check.due("eight that are so: fades", 1, x.fades(0));
        check.due("eight that are so: kinds", 1, x.kinds(0));
        check.due("eight that are so: another's", 1023, x.sures(1));
        x.back(1);
        x.reading(0, 9, 8);
        check.due("the eighth is not: sures", 0, x.sures(0));
        check.due("the eighth is not: fades", 0, x.fades(0));
        check.due("the eighth is not: kinds", 0, x.kinds(0));
        check.due("the eighth is not: another's", 0, x.kinds(2));
        check.due("KIND, SURE, FADE are its own", 9000, digits(x, 0) + x.ofJar(0, 0));
    }

    private static void shares() {
        check.promise("25 odds");
        bound("which", BoundTest::full, 0, 1, LOST, (x, which) -> x.odds(0, which));
        share("nothing is left", "t;l9000;l9000,0000", 0, 1);
        share("nothing is left, by NEED 0", "t;l9000,0000", 0, 1);
        share("NEED 0: each blend, and no set without a jar", "t;l0010;l0010;l0010,0000", 1, 1);
        share("NEED 1 of 0 everywhere", "t;l0010;l0010;l0010,1000", 0, 1);
        share("nobody", "t;l8010;l8010,9000", 0, 1);
        share("everybody", "t;l8010;l8010;l8010;l8010;l8010;l8010,8000", 1, 1);
        share("one of one", "t;l8010,8000", 1, 1);
        share("62 of 63", "t;l0010;l9010;l9010;l9010;l9010;l9010,1000", 62, 63);
        share("15 of 63", "t;l9010;l9010;l9010;l9010;l8010;l8010,9000", 5, 21);
        share("3 of 3 of what is left", "t;l0000;l0000;l9010;l9010;l0000;l0000,9000", 1, 1);
    }

    private static void share(String name, String text, long upper, long lower) {
        LastJars x = Check.shop(text);
        check.due(name + ": upper", upper, x.odds(0, 0));
        check.due(name + ": lower", lower, x.odds(0, 1));
    }

    private static void calls() {
        check.promise("512 calls");
        LastJars x = new LastJars();
        x.sheet(0, 0, 12);
        for (int i = 0; i < 12; i++) {
            x.put(0, i, "t;l9990,0000".charAt(i));
        }
        x.store(0, 0, 0, 12);
        for (int call = 14; call < 509; call++) {
            x.reading(0, 0, 9);
        }
        check.due("call 510", 8, x.many(3));
        check.due("call 511", 512, x.sures(0));
        check.due("call 512", 1, x.sell(0, 0));
    }
}
