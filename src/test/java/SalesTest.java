/** Promises 11 to 14: blends, how long they hold, sales, years that are told. */
public final class SalesTest {
    private static final Check check = new Check("SalesTest");
    private static final String FOUR = "t;l7312;w8224;p9113;l9232,4105,6208,2950";

    public static void main(String[] args) {
        blend();
        hold();
        sell();
        yearAnswers();
        yearFirstWrong();
        yearRefuses();
        check.end();
    }

    private static void blend() {
        check.promise("11 blend");
        LastJars x = new LastJars();
        check.due("without a store", -3, x.blend(0, 10));
        x = Check.shop(FOUR);
        check.due("one jar", 7, x.blend(1, 0));
        check.due("7 and 0 by 2", 3, x.blend(3, 0));
        check.due("4 and 8 by 2", 6, x.blend(3, 1));
        check.due("7 0 0 9 by 4", 4, x.blend(15, 0));
        check.due("4 8 4 7 by 4", 5, x.blend(15, 1));
        check.due("8 4 7 by 3", 6, x.blend(14, 1));
        check.due("minute 9", 0, x.blend(15, 9));
        x.fetch(0, 0);
        check.due("whatever is left", 7, x.blend(1, 0));
        check.due("no jar", -2, x.blend(0, 0));
        check.due("a jar that is not", -2, x.blend(16, 0));
        check.due("a jar that is not, too", -2, x.blend(17, 0));
        check.due("below 0", -2, x.blend(-1, 0));
        check.due("far below 0", -2, x.blend(Integer.MIN_VALUE, 0));
        check.due("minute 10", -2, x.blend(1, 10));
        check.due("minute -1", -2, x.blend(1, -1));
    }

    private static void hold() {
        check.promise("12 hold");
        check.due("without a store", -3, new LastJars().hold(0, 10));
        LastJars x = Check.shop(FOUR);
        check.due("7 4 1 by 4", 2, x.hold(1, 4));
        check.due("7 4 1 by 5", 1, x.hold(1, 5));
        check.due("7 4 1 by 8", 0, x.hold(1, 8));
        check.due("by 0", 10, x.hold(1, 0));
        check.due("0 8 6 4 2 by 2", 4, x.hold(2, 2));
        check.due("0 4 4 3 3 2 2 1 1 0 by 1", 8, x.hold(4, 1));
        check.due("3 6 3 2 1 by 3", 3, x.hold(3, 3));
        check.due("no jar", -2, x.hold(0, 0));
        check.due("a jar that is not", -2, x.hold(16, 0));
        check.due("v 10", -2, x.hold(1, 10));
        check.due("v -1", -2, x.hold(1, -1));
        LastJars two = Check.shop("t;l9900;w9200;l5500;w4000,0000");
        check.due("4 4 3 .. by 4", 2, two.hold(3, 4));
        check.due("4 4 3 .. by 5", 0, two.hold(3, 5));
        check.due("4 2 2 .. by 3", 1, two.hold(9, 3));
        check.due("to the last minute", 9, two.hold(8, 4));
    }

    private static void sell() {
        check.promise("13 sell");
        LastJars x = Check.shop(FOUR);
        check.due("4 of 4", 1, x.sell(0, 2));
        check.due("one is less", 0, x.ofJar(2, 3));
        check.due("paid", 2, x.ofDecider(0, 2));
        check.due("none is left", -3, x.sell(2, 2));
        check.due("above purse", -3, x.sell(0, 1));
        check.due("nothing changed", 2, x.ofJar(1, 3));
        check.due("just the purse", 1, x.sell(0, 0));
        check.due("purse", 0, x.ofDecider(0, 2));
        check.due("5 of 6", 0, x.sell(1, 3));
        check.due("6 of 6", 1, x.sell(1, 1));
        check.due("decided", 2, x.ofDecider(0, 3));
        check.due("decided once", 1, x.ofDecider(1, 3));
        check.due("decider 3", -1, x.sell(3, 0));
        check.due("decider -1", -1, x.sell(-1, 0));
        check.due("jar 4", -1, x.sell(0, 4));
        check.due("jar -1", -1, x.sell(0, -1));
        x.price(3, 0);
        check.due("for nothing, of an empty purse", 1, x.sell(0, 3));
        check.due("without a store", -1, new LastJars().sell(0, 0));
    }

    private static void yearAnswers() {
        check.promise("14 year");
        LastJars x = Check.shop(FOUR);
        Check.lay(x, 0, 0, 9, 0, 2, 0, 0, 1, 1, 2, 3, 2, 3);
        check.due("decide", 3, x.year(0, 0, 1, 5, 0));
        check.due("first wrong", -9, x.year(0, 0, 1, 5, 1));
        check.due("pence", 13, x.year(0, 0, 1, 5, 2));
        check.due("empty then", 5, x.year(0, 0, 1, 5, 3));
        int[] halves = {0, 1, 0, 1, -9, -9};
        for (int j = 0; j < 6; j++) {
            check.due("halves of " + j, halves[j], x.year(0, 0, 1, 5, 10 + j));
        }
        int[] purses = {0, 4, 46, -9};
        for (int b = 0; b < 4; b++) {
            check.due("purse of " + b, purses[b], x.year(0, 0, 1, 5, 20 + b));
        }
        check.due("nothing is changed: halves", 7, x.many(2));
        check.due("nothing is changed: purse", 5, x.ofDecider(0, 2));
        check.due("nothing is changed: decided", 0, x.ofDecider(0, 3));
        check.due("no pairs", 0, x.year(0, 0, 11, 0, 0));
        check.due("no pairs, none wrong", -9, x.year(0, 0, 0, 0, 1));
        check.due("no pairs, purse", 50, x.year(0, 0, 0, 0, 22));
        x.sell(0, 2);
        check.due("from how all is now", -100, x.year(0, 0, 1, 5, 0));
        check.due("empty now", 4, x.year(0, 0, 0, 0, 3));
        LastJars many = Check.shop("t;l9090;l9090;l9090,0000");
        int[] pairs = new int[42];
        for (int p = 0; p < 21; p++) {
            pairs[2 * p + 1] = p % 3;
        }
        Check.lay(many, 1, 1, pairs);
        check.due("20 pairs", 20, many.year(1, 1, 0, 20, 0));
        check.due("21 pairs", -2, many.year(1, 1, 0, 21, 0));
    }

    private static void yearFirstWrong() {
        check.promise("14 first wrong");
        LastJars x = Check.shop(FOUR);
        Check.lay(x, 0, 2, 2, 0, 1, 2, 2, 0, 2, 2, 7, 7);
        check.due("none left: place", 2, x.year(0, 2, 0, 4, 1));
        check.due("a pair that is none behind it", -1, x.year(0, 2, 0, 5, 1));
        check.due("none left: decide", -102, x.year(0, 2, 0, 4, 0));
        check.due("none left: pence", -102, x.year(0, 2, 0, 4, 2));
        check.due("none left: empty", -102, x.year(0, 2, 0, 4, 3));
        check.due("none left: halves of no jar", -102, x.year(0, 2, 0, 4, 15));
        check.due("none left: purse of nobody", -102, x.year(0, 2, 0, 4, 23));
        check.due("fault()", 0, x.fault());
        check.due("ahead of it", 5, x.year(0, 2, 0, 2, 2));
        Check.lay(x, 0, 2, 0, 1, 0, 0);
        check.due("purse: place", 1, x.year(0, 2, 0, 2, 1));
        check.due("purse: answer", -101, x.year(0, 2, 0, 2, 21));
    }

    private static void yearRefuses() {
        check.promise("14 year refuses");
        LastJars x = new LastJars();
        check.due("sheet 4", -1, x.year(4, 3, 0, 21, 4));
        check.due("sheet -1", -1, x.year(-1, 0, 0, 0, 0));
        check.due("lane 3", -2, x.year(0, 3, 0, 0, 0));
        check.due("lane -1", -2, x.year(0, -1, 0, 0, 0));
        check.due("n -1", -2, x.year(0, 0, 0, -1, 0));
        check.due("n 21", -2, x.year(0, 0, 0, 21, 0));
        for (int what : new int[] {-1, 4, 9, 16, 19, 24, Integer.MAX_VALUE, Integer.MIN_VALUE}) {
            check.due("what " + what, -2, x.year(0, 0, 0, 0, what));
        }
        check.due("no store", -3, x.year(0, 0, 0, 0, 0));
        Check.store(x, FOUR);
        check.due("nothing is no CAST", -11, x.year(0, 1, -1, 1, 0));
        check.due("fault()", 1, x.fault());
        Check.lay(x, 0, 0, 0, 0, 0, 0);
        check.due("CAST ahead of INDEX", -12, x.year(0, 1, -1, 1, 0));
        check.due("fault()", 2, x.fault());
        check.due("i -1", -13, x.year(0, 0, -1, 0, 0));
        check.due("i 5", -13, x.year(0, 0, 5, 0, 0));
        check.due("half a pair", -13, x.year(0, 0, 3, 1, 0));
        check.due("a pair too many", -13, x.year(0, 0, 0, 3, 0));
        check.due("fault()", 3, x.fault());
        check.due("refused", -2, x.year(0, 0, 0, 0, 4));
        check.due("fault() of a refused one", 0, x.fault());
        unknown(x, 3, 0);
        unknown(x, -1, 0);
        unknown(x, 0, 4);
        unknown(x, 0, -1);
        Check.lay(x, 0, 0, 2, 0, 9, 9);
        check.due("behind a sale that can be", -1, x.year(0, 0, 0, 2, 1));
        check.due("ahead of it", 0, x.year(0, 0, 0, 1, 0));
        unknownBehindWrong(x, 3, 0);
        unknownBehindWrong(x, -1, 0);
        unknownBehindWrong(x, 0, 4);
        unknownBehindWrong(x, 0, -1);
    }

    /** A row with a cell that is no DECIDER, no JAR is no YEAR, so it has no FIRST WRONG either. */
    private static void unknownBehindWrong(LastJars x, int b, int j) {
        x.pay(0, 0);
        Check.lay(x, 0, 0, 0, 0, 2, 3, b, j, 2, 0);
        for (int what : new int[] {0, 1, 2, 3, 10, 15, 20, 23}) {
            String told = b + " " + j + " what " + what;
            check.due("first wrong ahead of " + told, what == 1 ? 0 : -100, x.year(0, 0, 0, 2, what));
            check.due("as the last pair " + told, -1, x.year(0, 0, 0, 3, what));
            check.due("as one among them " + told, -1, x.year(0, 0, 0, 4, what));
            check.due("fault()", 0, x.fault());
        }
        x.pay(0, 5);
    }

    private static void unknown(LastJars x, int b, int j) {
        Check.lay(x, 0, 0, b, j);
        for (int what : new int[] {0, 1, 2, 3, 15, 23}) {
            check.due("pair " + b + " " + j + " what " + what, -1, x.year(0, 0, 0, 1, what));
            check.due("fault()", 0, x.fault());
        }
    }
}
