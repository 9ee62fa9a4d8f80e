/** Promises 1 to 10: a new object, the store, its jars and deciders, marks. */
public final class StoreTest {
    private static final Check check = new Check("StoreTest");
    private static final String FOUR = "t;l7312;w8224;p9113;l9232,4105,6208,2950";

    public static void main(String[] args) {
        newObject();
        storeTakes();
        storeFindsFirstFault();
        storeRefuses();
        storeMakesAllAnew();
        ofJar();
        ofDecider();
        jarChanges();
        deciderChanges();
        mark();
        check.end();
    }

    private static void newObject() {
        check.promise("1 new object");
        LastJars x = new LastJars();
        for (int what = 0; what < 4; what++) {
            check.due("many(" + what + ")", 0, x.many(what));
        }
        check.due("ofJar(0, 0)", -1, x.ofJar(0, 0));
        check.due("ofDecider(0, 0)", -1, x.ofDecider(0, 0));
        for (int k = 0; k < 4; k++) {
            check.due("lose(" + k + ")", 0, x.lose(k));
            check.due("put(" + k + ", 0, 1)", -11, x.put(k, 0, 1));
        }
        check.due("trace()", 0, x.trace());
        check.due("fault() of a new one", 0, new LastJars().fault());
        check.due("back(0)", 0, x.back(0));
        check.due("back(1)", -2, x.back(1));
    }

    private static void storeTakes() {
        check.promise("2 store");
        check.due("four jars", 4, Check.store(new LastJars(), FOUR));
        check.due("the shortest", 1, Check.store(new LastJars(), "t;l0000,0000"));
        String longest = "t;l1234;w2345;p3456;l4567;w5678;p6789,1234,2345,3456,4567";
        check.due("the longest", 6, Check.store(new LastJars(), longest));
        for (int lane = 0; lane < 3; lane++) {
            LastJars x = new LastJars();
            Check.lay(x, lane, lane, Check.codes("xx" + FOUR + "yy"));
            check.due("from 2 on, lane " + lane, 4, x.store(lane, lane, 2, FOUR.length()));
            check.due("fault()", 0, x.fault());
        }
        LastJars x = new LastJars();
        Check.lay(x, 0, 0, Check.codes("t;l0000,000\u0130"));
        check.due("codes are cut to bytes as they come", 1, x.store(0, 0, 0, 12));
    }

    private static void storeFindsFirstFault() {
        check.promise("2 first fault");
        fault(0, "");
        fault(0, "u");
        fault(0, "T;l0000,0000");
        for (int n = 1; n < 12; n++) {
            fault(n, "t;l0000,0000".substring(0, n));
        }
        String whole = "t;l0000,0000";
        for (int i = 0; i < 12; i++) {
            fault(i, whole.substring(0, i) + "x" + whole.substring(i + 1));
        }
        fault(1, "t,0000");
        fault(2, "t;;");
        fault(2, "t;5");
        fault(3, "t;l/000,0000");
        fault(6, "t;l000:,0000");
        fault(7, "t;l00000,0000");
        fault(8, "t;l0000,,");
        fault(12, "t;l0000,00000");
        fault(12, "t;l0000,0000;l0000");
        fault(12, "t;l0000,0000t");
        fault(37, "t;l1234;w2345;p3456;l4567;w5678;p6789;l1111,1111");
        fault(37, "t;l1234;w2345;p3456;l4567;w5678;p6789");
        fault(27, "t;l0000,0000,0000,0000,0000,0000");
        fault(17, "t;l0000,0000,0000x");
        fault(15, "t;l0000,0000,00");
        LastJars x = new LastJars();
        Check.lay(x, 0, 0, Check.codes("t;l0000;w0000,0000,0000"));
        for (int n = 0; n < 23; n++) {
            check.due("the first " + n + " of more cells", n == 18 ? 2 : -100 - n, x.store(0, 0, 0, n));
        }
    }

    private static void fault(int place, String text) {
        LastJars x = new LastJars();
        check.due("text '" + text + "'", -100 - place, Check.store(x, text));
        check.due("fault() behind '" + text + "'", 0, x.fault());
        check.due("many(0) behind '" + text + "'", 0, x.many(0));
    }

    private static void storeRefuses() {
        check.promise("2 store refuses");
        LastJars x = new LastJars();
        check.due("sheet -1", -1, x.store(-1, 3, -1, -1));
        check.due("sheet 4", -1, x.store(4, 0, 0, 0));
        check.due("lane 3 of nothing", -2, x.store(0, 3, 0, 0));
        check.due("lane -1 of nothing", -2, x.store(0, -1, 0, 0));
        check.due("nothing is no CAST", -11, x.store(0, 2, -1, -1));
        check.due("fault()", 1, x.fault());
        x.sheet(0, 1, 5);
        check.due("CAST ahead of SIZE", -12, x.store(0, 2, 0, -1));
        check.due("fault()", 2, x.fault());
        check.due("SIZE ahead of INDEX", -14, x.store(0, 1, -1, -1));
        check.due("fault()", 4, x.fault());
        check.due("i below 0", -13, x.store(0, 1, -1, 0));
        check.due("i behind the end", -13, x.store(0, 1, 6, 0));
        check.due("fault()", 3, x.fault());
        check.due("i at the end, none taken", -100, x.store(0, 1, 5, 0));
        check.due("fault()", 0, x.fault());
        check.due("one too many", -13, x.store(0, 1, 0, 6));
        check.due("far too many", -13, x.store(0, 1, 1, Integer.MAX_VALUE));
        check.due("all", -100, x.store(0, 1, 0, 5));
        check.due("far off", -13, x.store(0, 1, Integer.MIN_VALUE, 1));
        check.due("refused", -1, x.store(9, 1, 0, 5));
        check.due("fault() of a refused one", 0, x.fault());
    }

    private static void storeMakesAllAnew() {
        check.promise("2 all anew");
        LastJars x = Check.shop(FOUR);
        x.sell(0, 2);
        x.reading(0, 0, 7);
        x.tell(0);
        check.due("a text that is not taken", -140, Check.store(x, FOUR + ";"));
        check.due("decided as before", 1, x.ofDecider(0, 3));
        check.due("halves as before", 0, x.ofJar(2, 3));
        check.due("readings as before", 1, x.many(3));
        check.due("taken", 4, Check.store(x, FOUR));
        check.due("nobody has decided", 0, x.ofDecider(0, 3));
        check.due("halves anew", 1, x.ofJar(2, 3));
        check.due("purse anew", 5, x.ofDecider(0, 2));
        check.due("no readings", 0, x.many(3));
        check.due("TRACE is not the store's", 1, x.trace());
        check.due("fewer", 1, Check.store(x, "t;p9999,9999"));
        check.due("jar 1 is gone", -1, x.ofJar(1, 0));
        check.due("decider 1 is gone", -1, x.ofDecider(1, 0));
        check.due("many(0)", 1, x.many(0));
        check.due("many(1)", 1, x.many(1));
        check.due("many(2)", 9, x.many(2));
        check.due("four, and then one", 4, Check.store(x, "t;l0019;l9990;l9990;l9990,9099,9099"));
        Check.store(x, "t;l0090,9099,0000");
        check.due("jars that are gone are not served", 1, x.serve(-1));
        check.due("jars that are gone are not blended", -9, x.mix(0, 0));
        check.due("jars that are gone are not like it", -9, x.like(0));
        check.due("deciders that are gone don't decide", -9, x.serve(2));
    }

    private static void ofJar() {
        check.promise("3 ofJar");
        LastJars x = Check.shop("t;l7312;w8224;p9113;l0000;p1900,4105");
        int[][] want = {{0, 7, 3, 1, 2, 7}, {1, 8, 2, 2, 4, 8}, {2, 9, 1, 1, 3, 4}, {0, 0, 0, 0, 0, 0}, {2, 1, 9, 0, 0, 0}};
        for (int j = 0; j < want.length; j++) {
            for (int what = 0; what < 6; what++) {
                check.due("ofJar(" + j + ", " + what + ")", want[j][what], x.ofJar(j, what));
            }
        }
        check.due("what 6", -2, x.ofJar(0, 6));
        check.due("what -1", -2, x.ofJar(4, -1));
        check.due("no jar ahead of what", -1, x.ofJar(5, 6));
        check.due("jar -1", -1, x.ofJar(-1, 0));
        check.due("fault() is not touched", 0, x.fault());
    }

    private static void ofDecider() {
        check.promise("4 ofDecider");
        LastJars x = Check.shop("t;l7392,4105,6208,2950,0199");
        int[][] want = {{4, 1, 5, 0}, {6, 2, 8, 0}, {2, 9, 50, 0}, {0, 1, 99, 0}};
        for (int b = 0; b < want.length; b++) {
            for (int what = 0; what < 4; what++) {
                check.due("ofDecider(" + b + ", " + what + ")", want[b][what], x.ofDecider(b, what));
            }
        }
        check.due("what 4", -2, x.ofDecider(0, 4));
        check.due("what -1", -2, x.ofDecider(0, -1));
        check.due("no decider ahead of what", -1, x.ofDecider(4, 4));
        check.due("decider -1", -1, x.ofDecider(-1, 0));
        check.due("decides", 1, x.sell(0, 0));
        check.due("decides again", 1, x.sell(0, 0));
        check.due("does not", 0, x.sell(1, 0));
        check.due("twice", 2, x.ofDecider(0, 3));
        check.due("never", 0, x.ofDecider(1, 3));
        check.due("purse", 1, x.ofDecider(0, 2));
        check.due("paid all the same", 6, x.ofDecider(1, 2));
    }

    private static void jarChanges() {
        LastJars x = Check.shop(FOUR);
        check.promise("5 cure");
        check.due("cure(1, 9)", 8, x.cure(1, 9));
        check.due("cure(1, 0)", 9, x.cure(1, 0));
        check.due("sure", 0, x.ofJar(1, 1));
        check.due("mark", 0, x.mark(1, 1));
        check.due("v 10", -2, x.cure(1, 10));
        check.due("v -1", -2, x.cure(1, -1));
        check.due("jar 4", -1, x.cure(4, 10));
        check.due("jar -1", -1, x.cure(-1, 1));
        check.due("nothing changed", 0, x.ofJar(1, 1));
        check.promise("6 fetch");
        check.due("fetch(3, 9)", 3, x.fetch(3, 9));
        check.due("fetch(3, 0)", 9, x.fetch(3, 0));
        check.due("halves", 0, x.ofJar(3, 3));
        check.due("all halves", 4, x.many(2));
        check.due("v 10", -2, x.fetch(3, 10));
        check.due("v -1", -2, x.fetch(3, -1));
        check.due("jar 4", -1, x.fetch(4, 10));
        check.due("nothing changed", 0, x.ofJar(3, 3));
        check.promise("7 price");
        check.due("price(0, 9)", 2, x.price(0, 9));
        check.due("price(0, 0)", 9, x.price(0, 0));
        check.due("price", 0, x.ofJar(0, 4));
        check.due("v 10", -2, x.price(0, 10));
        check.due("v -1", -2, x.price(0, -1));
        check.due("jar 4", -1, x.price(4, 10));
        check.due("nothing changed", 0, x.ofJar(0, 4));
        check.due("without a store", -1, new LastJars().price(0, 0));
    }

    private static void deciderChanges() {
        LastJars x = Check.shop(FOUR);
        check.promise("8 dread");
        check.due("dread(2, 9)", 2, x.dread(2, 9));
        check.due("dread(2, 0)", 9, x.dread(2, 0));
        check.due("need", 0, x.ofDecider(2, 0));
        check.due("v 10", -2, x.dread(2, 10));
        check.due("v -1", -2, x.dread(2, -1));
        check.due("decider 3", -1, x.dread(3, 10));
        check.due("decider -1", -1, x.dread(-1, 0));
        check.due("nothing changed", 0, x.ofDecider(2, 0));
        check.promise("9 pay");
        check.due("pay(2, 99)", 50, x.pay(2, 99));
        check.due("pay(2, 0)", 99, x.pay(2, 0));
        check.due("purse", 0, x.ofDecider(2, 2));
        check.due("v 100", -2, x.pay(2, 100));
        check.due("v -1", -2, x.pay(2, -1));
        check.due("decider 3", -1, x.pay(3, 100));
        check.due("nothing changed", 0, x.ofDecider(2, 2));
        check.due("without a store", -1, new LastJars().pay(0, 0));
    }

    private static void mark() {
        check.promise("10 mark");
        LastJars x = Check.shop("t;l7312;w8224;p9113;l9000;w9000;p9000,4105");
        int[][] want = {
            {7, 4, 1, 0, 0, 0, 0, 0, 0, 0}, {0, 8, 6, 4, 2, 0, 0, 0, 0, 0}, {0, 4, 4, 3, 3, 2, 2, 1, 1, 0},
            {9, 9, 9, 9, 9, 9, 9, 9, 9, 9}, {0, 9, 9, 9, 9, 9, 9, 9, 9, 9}, {0, 4, 4, 4, 4, 4, 4, 4, 4, 4}};
        for (int j = 0; j < want.length; j++) {
            for (int t = 0; t < 10; t++) {
                check.due("mark(" + j + ", " + t + ")", want[j][t], x.mark(j, t));
            }
        }
        check.due("minute 10", -2, x.mark(0, 10));
        check.due("minute -1", -2, x.mark(0, -1));
        check.due("jar 6", -1, x.mark(6, 10));
        check.due("jar -1", -1, x.mark(-1, 0));
    }
}
