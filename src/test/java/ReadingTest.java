/** Promises 20 to 25: readings, what follows from them, odds. */
public final class ReadingTest {
    private static final Check check = new Check("ReadingTest");
    private static final String FOUR = "t;l7312;w8224;p9113;l9232,4105,6208,2950";

    public static void main(String[] args) {
        reading();
        back();
        sures();
        fades();
        kinds();
        odds();
        check.end();
    }

    private static void reading() {
        check.promise("20 reading");
        LastJars x = new LastJars();
        check.due("without a store", -1, x.reading(0, 10, 10));
        Check.store(x, FOUR);
        check.due("jar 4", -1, x.reading(4, 10, 0));
        check.due("jar -1", -1, x.reading(-1, 0, 0));
        check.due("minute 10", -2, x.reading(0, 10, 0));
        check.due("minute -1", -2, x.reading(0, -1, 0));
        check.due("mark 10", -2, x.reading(0, 0, 10));
        check.due("mark -1", -2, x.reading(0, 0, -1));
        for (int r = 0; r < 8; r++) {
            check.due("reading " + r, r, x.reading(r % 4, 9, r % 2 * 9));
            check.due("many(3)", r + 1, x.many(3));
        }
        check.due("full", -4, x.reading(0, 0, 0));
        check.due("OUTSIDE ahead of FULL", -2, x.reading(0, 0, 10));
        check.due("UNKNOWN ahead of FULL", -1, x.reading(4, 0, 0));
        check.due("many(3)", 8, x.many(3));
    }

    private static void back() {
        check.promise("21 back");
        LastJars x = Check.shop(FOUR);
        check.due("none", 0, x.back(0));
        check.due("one too many", -2, x.back(1));
        x.reading(0, 0, 1);
        x.reading(0, 0, 2);
        x.reading(0, 0, 3);
        check.due("-1", -2, x.back(-1));
        check.due("4 of 3", -2, x.back(4));
        check.due("0 of 3", 3, x.back(0));
        check.due("2 of 3", 1, x.back(2));
        check.due("the first is left", 2, x.sures(0));
        check.due("the next has number 1", 1, x.reading(1, 0, 0));
        check.due("all", 0, x.back(2));
        check.due("all may be", 1023, x.sures(0));
    }

    private static void sures() {
        check.promise("22 sures");
        LastJars x = Check.shop(FOUR);
        check.due("without readings", 1023, x.sures(2));
        x.reading(1, 2, 6);
        check.due("twist: 8 less 2", 256, x.sures(1));
        x.back(1);
        x.reading(2, 2, 3);
        check.due("plug: 7 and 8 less 1 by 2", 384, x.sures(2));
        x.back(1);
        x.reading(0, 3, 0);
        check.due("faded: all", 1023, x.sures(0));
        x.back(1);
        x.reading(0, 2, 0);
        check.due("leaf: 0 .. 6", 127, x.sures(0));
        check.due("another jar: the reading is not so", 0, x.sures(1));
        x.back(1);
        x.reading(0, 0, 7);
        check.due("another jar: it is so", 1023, x.sures(1));
        x.reading(0, 1, 5);
        check.due("two that are at odds", 0, x.sures(0));
        check.due("its own is put back", 7, x.ofJar(0, 1));
        x.cure(0, 9);
        check.due("what it is now does not count for itself", 0, x.sures(0));
        x.back(1);
        check.due("of itself", 128, x.sures(0));
        check.due("for others it does", 0, x.sures(3));
        check.due("jar 4", -1, x.sures(4));
        check.due("jar -1", -1, x.sures(-1));
        check.due("without a store", -1, new LastJars().sures(0));
    }

    private static void fades() {
        check.promise("23 fades");
        LastJars x = Check.shop(FOUR);
        check.due("without readings", 1023, x.fades(0));
        x.reading(0, 1, 4);
        check.due("leaf", 8, x.fades(0));
        x.back(1);
        x.reading(0, 0, 7);
        check.due("minute 0", 1023, x.fades(0));
        x.back(1);
        x.reading(0, 2, 0);
        check.due("7 less twice 4 and more", 1008, x.fades(0));
        check.due("another jar", 0, x.fades(3));
        check.due("its own is put back", 3, x.ofJar(0, 2));
        x.back(1);
        x.reading(2, 3, 2);
        check.due("plug: 9 less 4, by 2: 5 and 4", 4, x.fades(2));
        x.reading(2, 5, 0);
        check.due("both", 4, x.fades(2));
        check.due("9 less 8 by 2", 0, x.mark(2, 9));
        check.due("jar 4", -1, x.fades(4));
        check.due("jar -1", -1, x.fades(-1));
        check.due("without a store", -1, new LastJars().fades(0));
    }

    private static void kinds() {
        check.promise("24 kinds");
        LastJars x = Check.shop(FOUR);
        check.due("without readings", 7, x.kinds(0));
        x.reading(0, 0, 0);
        check.due("twist, plug", 6, x.kinds(0));
        check.due("another jar", 0, x.kinds(1));
        x.reading(0, 1, 3);
        check.due("plug", 4, x.kinds(0));
        check.due("its own is put back", 0, x.ofJar(0, 0));
        x.back(2);
        x.reading(0, 0, 7);
        check.due("leaf", 1, x.kinds(0));
        check.due("another jar, so", 7, x.kinds(1));
        x.back(1);
        x.reading(0, 2, 4);
        check.due("twist", 2, x.kinds(0));
        x.reading(0, 9, 0);
        check.due("twist still", 2, x.kinds(0));
        check.due("jar 4", -1, x.kinds(4));
        check.due("jar -1", -1, x.kinds(-1));
        check.due("without a store", -1, new LastJars().kinds(0));
    }

    private static void odds() {
        check.promise("25 odds");
        odds("all", "t;l9010;l9010,9000", 1, 1);
        odds("none", "t;l8010;l8010,9000", 0, 1);
        odds("nothing is left", "t;l9000;l9000,0099", 0, 1);
        odds("whatever they cost", "t;l9019,9000", 1, 1);
        odds("1 of 3: 9, not 4 nor (13 / 2)", "t;l9010;l4010,7000", 1, 3);
        odds("2 of 3", "t;l9010;l4010,6000", 2, 3);
        odds("what is left alone counts", "t;l9010;l4010;l0000,6000", 2, 3);
        odds("3 of 7: 9 0 0 by 3 does not", "t;l9010;l0010;l0010,4000", 3, 7);
        odds("10 of 15 in least terms", "t;l9010;l9010;l0010;l0010,4000", 2, 3);
        odds("the minute counts", "t;l9010;w9010,9100", 1, 1);
        odds("of 63", "t;l9010;l0010;l0010;l0010;l0010;l0010,9000", 1, 63);
        LastJars x = Check.shop(FOUR);
        check.due("which 2", Long.MIN_VALUE, x.odds(0, 2));
        check.due("which -1", Long.MIN_VALUE, x.odds(0, -1));
        check.due("decider 3", Long.MIN_VALUE, x.odds(3, 0));
        check.due("decider -1", Long.MIN_VALUE, x.odds(-1, 0));
        check.due("without a store", Long.MIN_VALUE, new LastJars().odds(0, 0));
        x.put(0, 0, 0);
        x.odds(3, 0);
        check.due("fault() is not touched", 1, x.fault());
    }

    private static void odds(String name, String text, long upper, long lower) {
        LastJars x = Check.shop(text);
        check.due(name + ": upper", upper, x.odds(0, 0));
        check.due(name + ": lower", lower, x.odds(0, 1));
    }
}
