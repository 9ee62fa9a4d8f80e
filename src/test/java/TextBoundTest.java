/** The bounds of a TEXT: each code of it, too few and too many of each part, an end that comes too soon; then INDEX and SIZE. */
public final class TextBoundTest {
    private static final Check check = new Check("TextBoundTest");
    private static final String SHORTEST = "t;l0000,0000";
    private static final String LONGEST = "t;l1234;w2345;p3456;l4567;w5678;p6789,1234,2345,3456,4567";

    public static void main(String[] args) {
        everyCode();
        everyEnd();
        howManyJars();
        howManyDeciders();
        behindTheEnd();
        codesOfLanes();
        numbersOfPlaces();
        cellsTaken();
        sizes();
        refusedTextChangesNothing();
        takenTextMakesAllAnew();
        check.end();
    }

    private static int stored(int lane, int... codes) {
        LastJars x = new LastJars();
        Check.lay(x, 1, lane, codes);
        return x.store(1, lane, 0, codes.length);
    }

    /** With each of all 256 codes in each place: it is the FIRST FAULT, unless a TEXT goes on with it. */
    private static void everyCode() {
        check.promise("text: codes with which no TEXT goes on");
        for (int place = 0; place < LONGEST.length(); place++) {
            int[] codes = Check.codes(LONGEST);
            for (int code = 0; code < 256; code++) {
                codes[place] = code;
                // A , in place of a later ; begins the DECIDERS: the letter behind it is where no TEXT goes on.
                boolean goesOn = fits(LONGEST.charAt(place), code);
                boolean endsJars = code == ',' && LONGEST.charAt(place) == ';' && place > 1;
                int due = goesOn ? 6 : -100 - (endsJars ? place + 1 : place);
                check.due("code " + code + " at " + place, due, stored(2, codes));
            }
        }
    }

    private static boolean fits(char sign, int code) {
        switch (sign) {
            case 't': case ';': case ',': return code == sign;
            case 'l': case 'w': case 'p': return code == 'l' || code == 'w' || code == 'p';
            default: return code >= '0' && code <= '9';
        }
    }

    private static void everyEnd() {
        check.promise("text: it ends too soon");
        for (int n = 0; n < LONGEST.length(); n++) {
            boolean ends = n == 42 || n == 47 || n == 52;
            check.due("the first " + n, ends ? 6 : -100 - n, stored(0, Check.codes(LONGEST.substring(0, n))));
        }
        check.due("all of it", 6, stored(0, Check.codes(LONGEST)));
        for (int n = 0; n < SHORTEST.length(); n++) {
            check.due("the first " + n, -100 - n, stored(0, Check.codes(SHORTEST.substring(0, n))));
        }
        check.due("all of it", 1, stored(0, Check.codes(SHORTEST)));
    }

    private static void howManyJars() {
        check.promise("text: 1 to 6 jars");
        check.due("no jar, no decider", -101, stored(0, Check.codes("t")));
        check.due("no jar", -101, stored(0, Check.codes("t,0000")));
        for (int jars = 1; jars < 7; jars++) {
            String text = "t" + ";p9090".repeat(jars);
            LastJars x = new LastJars();
            check.due(jars + " jars", jars, Check.store(x, text + ",0000"));
            check.due("many(0)", jars, x.many(0));
            check.due("the last", 2, x.ofJar(jars - 1, 0));
            check.due("none behind it", -1, x.ofJar(jars, 0));
            check.due(jars + " jars, no decider", -101 - 6 * jars, stored(0, Check.codes(text)));
            check.due(jars + " jars, a , and no more", -102 - 6 * jars, stored(0, Check.codes(text + ",")));
            check.due(jars + " jars, a ; and no more", jars == 6 ? -137 : -102 - 6 * jars, stored(0, Check.codes(text + ";")));
        }
        check.due("seven jars: the ; of the seventh", -137, stored(0, Check.codes("t" + ";l0000".repeat(7) + ",0000")));
        check.due("seven jars, the seventh is none", -137, stored(0, Check.codes("t" + ";l0000".repeat(6) + ";x")));
    }

    private static void howManyDeciders() {
        check.promise("text: 1 to 4 deciders");
        for (String jars : new String[] {"t;l0000", "t" + ";l0000".repeat(6)}) {
            int end = jars.length();
            for (int deciders = 1; deciders < 5; deciders++) {
                LastJars x = new LastJars();
                check.due(deciders + " deciders", end / 6, Check.store(x, jars + ",7777".repeat(deciders)));
                check.due("many(1)", deciders, x.many(1));
                check.due("the last", 77, x.ofDecider(deciders - 1, 2));
                check.due("none behind it", -1, x.ofDecider(deciders, 0));
                String one = jars + ",7777".repeat(deciders) + ",";
                int due = deciders == 4 ? end + 20 : end + 5 * deciders + 1;
                check.due(deciders + " deciders, a , and no more", -100 - due, stored(0, Check.codes(one)));
            }
        }
        check.due("five deciders: the , of the fifth", -127, stored(0, Check.codes("t;l0000" + ",0000".repeat(5))));
        check.due("the , of the fifth, six jars", -157, stored(0, Check.codes("t" + ";l0000".repeat(6) + ",0000".repeat(4) + ",00")));
    }

    private static void behindTheEnd() {
        check.promise("text: codes behind its end");
        for (int code = 0; code < 128; code++) {
            int place = code == ',' ? 13 : 12;
            check.due("code " + code + " behind a decider", -100 - place, stored(1, with(SHORTEST, code)));
            check.due("code " + code + " behind the fourth decider", -157, stored(1, with(LONGEST, code)));
        }
        check.due("a jar behind a decider", -112, stored(0, Check.codes("t;l0000,0000;l0000,0000")));
    }

    private static int[] with(String text, int code) {
        int[] codes = java.util.Arrays.copyOf(Check.codes(text), text.length() + 1);
        codes[text.length()] = code;
        return codes;
    }

    /** A cell is cut as it comes; once it is there, it counts as the number that it is. */
    private static void codesOfLanes() {
        check.promise("text: codes of lanes");
        for (int place = 0; place < SHORTEST.length(); place++) {
            int[] codes = Check.codes(SHORTEST);
            codes[place] += 256;
            check.due("256 more, bytes", 1, stored(0, codes));
            check.due("256 more, shorts", -100 - place, stored(1, codes));
            check.due("256 more, ints", -100 - place, stored(2, codes));
            codes[place] += 65536 - 256;
            check.due("65536 more, bytes", 1, stored(0, codes));
            check.due("65536 more, shorts", 1, stored(1, codes));
            check.due("65536 more, ints", -100 - place, stored(2, codes));
            codes[place] = -codes[place];
            check.due("less than 0, ints", -100 - place, stored(2, codes));
            for (int code : new int[] {Integer.MIN_VALUE, Integer.MAX_VALUE, -1}) {
                codes[place] = code;
                check.due("code " + code, -100 - place, stored(2, codes));
            }
        }
    }

    private static void numbersOfPlaces() {
        check.promise("text: what its digits tell");
        for (int digit = 0; digit < 10; digit++) {
            for (int what = 1; what < 5; what++) {
                char[] signs = SHORTEST.toCharArray();
                signs[2 + what] = (char) ('0' + digit);
                LastJars x = Check.shop(new String(signs));
                check.due("jar: digit " + what, digit, x.ofJar(0, what));
                check.due("all of them", digit, x.ofJar(0, 1) + x.ofJar(0, 2) + x.ofJar(0, 3) + x.ofJar(0, 4));
            }
            LastJars x = Check.shop("t;l0000," + digit + "000,0" + digit + "00,00" + digit + "0,000" + digit);
            int[][] want = {{digit, 0, 0, 0}, {0, digit, 0, 0}, {0, 0, 10 * digit, 0}, {0, 0, digit, 0}};
            for (int b = 0; b < 4; b++) {
                for (int what = 0; what < 4; what++) {
                    check.due("decider " + b + " what " + what, want[b][what], x.ofDecider(b, what));
                }
            }
        }
        check.due("purse 99", 99, Check.shop("t;l0000,0099").ofDecider(0, 2));
        LastJars kinds = Check.shop("t;l0000;w0000;p0000,0000");
        for (int kind = 0; kind < 3; kind++) {
            check.due("kind", kind, kinds.ofJar(kind, 0));
        }
    }

    private static void cellsTaken() {
        check.promise("store: INDEX");
        LastJars x = new LastJars();
        Check.lay(x, 0, 0, Check.codes("tt;" + LONGEST));
        check.due("to the last of 60 cells", 6, x.store(0, 0, 3, 57));
        check.due("one cell on", -13, x.store(0, 0, 4, 57));
        check.due("one cell more", -13, x.store(0, 0, 3, 58));
        check.due("one cell sooner", -100, x.store(0, 0, 2, 57));
        check.due("all 60", -101, x.store(0, 0, 0, 60));
        check.due("61", -13, x.store(0, 0, 0, 61));
        check.due("the last cell", -100, x.store(0, 0, 59, 1));
        check.due("the cell behind it", -13, x.store(0, 0, 60, 1));
        check.due("none behind all", -100, x.store(0, 0, 60, 0));
        check.due("none, one on", -13, x.store(0, 0, 61, 0));
        check.due("none, from -1 on", -13, x.store(0, 0, -1, 0));
        check.due("from -1 on", -13, x.store(0, 0, -1, 57));
        check.due("an end that wraps", -13, x.store(0, 0, Integer.MAX_VALUE, Integer.MAX_VALUE));
        check.due("an end that wraps to 0", -13, x.store(0, 0, Integer.MIN_VALUE, Integer.MAX_VALUE));
        x.sheet(1, 1, 0);
        check.due("of no cells none", -100, x.store(1, 1, 0, 0));
        check.due("of no cells one", -13, x.store(1, 1, 0, 1));
        check.due("of no cells none, one on", -13, x.store(1, 1, 1, 0));
        check.due("of no cells none, from -1 on", -13, x.store(1, 1, -1, 0));
    }

    private static void sizes() {
        check.promise("store: SIZE");
        LastJars x = new LastJars();
        x.sheet(0, 2, 4);
        for (int n : new int[] {-1, -2, Integer.MIN_VALUE}) {
            for (int i : new int[] {0, 4, 5, -1, Integer.MAX_VALUE}) {
                check.due("n " + n + " from " + i, -14, x.store(0, 2, i, n));
                check.due("fault()", 4, x.fault());
            }
        }
        check.due("n 0", -100, x.store(0, 2, 0, 0));
        check.due("fault()", 0, x.fault());
    }

    private static void refusedTextChangesNothing() {
        check.promise("store: a text that is not taken");
        String[] texts = {"", "t", "t;p9999", "t;p9999,", "t;p9999,999", "t;p9999,9999x", "x", "t;p9999;p9999,9999,99"};
        for (String text : texts) {
            LastJars x = lived();
            LastJars same = lived();
            check.holds("'" + text + "' is no text", x.store(3, 2, 0, lay(x, text)) <= -100);
            lay(same, text);
            check.holds("'" + text + "' changed something", Look.at(same).equals(Look.at(x)));
        }
    }

    private static int lay(LastJars x, String text) {
        Check.lay(x, 3, 2, Check.codes(text));
        return text.length();
    }

    private static LastJars lived() {
        LastJars x = Check.shop("t;l7312;w8224,4105,6208");
        x.sell(0, 0);
        x.reading(1, 1, 8);
        x.reading(0, 0, 7);
        x.sniff(1);
        x.price(1, 9);
        return x;
    }

    private static void takenTextMakesAllAnew() {
        check.promise("store: all anew");
        LastJars x = lived();
        for (int r = 2; r < 8; r++) {
            x.reading(0, 0, r);
        }
        check.due("full", -4, x.reading(0, 0, 0));
        lay(x, "t;l7312;w8224,4105,6208");
        check.due("taken", 2, x.store(3, 2, 0, 23));
        int[][] jars = {{0, 7, 3, 1, 2, 7}, {1, 8, 2, 2, 4, 8}};
        int[][] deciders = {{4, 1, 5, 0}, {6, 2, 8, 0}};
        for (int one = 0; one < 2; one++) {
            for (int what = 0; what < 6; what++) {
                check.due("jar " + one + " what " + what, jars[one][what], x.ofJar(one, what));
            }
            for (int what = 0; what < 4; what++) {
                check.due("decider " + one + " what " + what, deciders[one][what], x.ofDecider(one, what));
            }
        }
        check.due("no readings", 0, x.many(3));
        check.due("none to take back", -2, x.back(1));
        check.due("all may be", 1023, x.sures(0));
        check.due("the first has number 0", 0, x.reading(0, 0, 7));
    }
}
