/** Promises 15 to 19: mix, like, guess, serve, dear. */
public final class ChoiceTest {
    private static final Check check = new Check("ChoiceTest");
    private static final String FOUR = "t;l7312;w8224;p9113;l9232,4105,6208,2950";

    public static void main(String[] args) {
        mix();
        like();
        guess();
        guessRefuses();
        serve();
        dear();
        check.end();
    }

    private static void mix() {
        check.promise("15 mix");
        mixed("the cheapest one", "t;l9015;l9013;l9014,5099", 3, 2);
        mixed("a dearer one is surer", "t;l9019;l8012;w2012,5099", 2, 2);
        mixed("nobody is so sure", "t;l4010;l3011;l2011,9099", -9, -9);
        mixed("of equal pence the least", "t;l9012;l9011;l9011,9099", 1, 2);
        mixed("a free jar blended in is one jar more", "t;l9910;l9011;w9011,4199", 1, 2);
        mixed("free jars blended in are more jars", "t;l4010;l3010;l9010,5100", 0, 4);
        mixed("for nothing", "t;l3010;l9010;l9010,9000", 0, 2);
        mixed("none is left of the cheapest", "t;l9001;l9013,9099", 3, 2);
        mixed("the purse is too small", "t;l9013,9002", -9, -9);
        mixed("the purse just does", "t;l9013,9003", 3, 1);
        mixed("nothing is left", "t;l9003,0099", -9, -9);
        mixed("the last of six", "t;l1010;l1010;l1010;l1010;l1010;l9017,9099", 7, 32);
        mixed("in the minute that counts", "t;l5510;w9019,4109", 9, 2);
        LastJars x = Check.shop("t;l4011;l9014;l9012,6099");
        check.due("one of 2 pence", 2, x.mix(0, 0));
        check.due("its set", 4, x.mix(0, 1));
        x.fetch(2, 0);
        check.due("4 and 9 by 2 are 6, but 5 pence", 4, x.mix(0, 0));
        check.due("set 2", 2, x.mix(0, 1));
        x.price(1, 0);
        check.due("0 pence", 0, x.mix(0, 0));
        LastJars y = Check.shop(FOUR);
        check.due("what 2", -2, y.mix(0, 2));
        check.due("what -1", -2, y.mix(0, -1));
        check.due("decider 3", -1, y.mix(3, 2));
        check.due("decider -1", -1, y.mix(-1, 0));
        check.due("without a store", -1, new LastJars().mix(0, 0));
        check.due("nothing is sold", 7, y.many(2));
    }

    private static void mixed(String name, String text, int pence, int set) {
        LastJars x = Check.shop(text);
        check.due(name + ": pence", pence, x.mix(0, 0));
        check.due(name + ": set", set, x.mix(0, 1));
    }

    private static void like() {
        check.promise("16 like");
        LastJars x = Check.shop("t;l5000;l4000;l6000;l7000;l3000,0000");
        check.due("4 and 6", 6, x.like(0));
        check.due("5 and 3, 5 is not 4 nor 3", 17, x.like(1));
        check.due("5 and 7", 9, x.like(2));
        check.due("the most", -9, x.like(3));
        check.due("the least: cut quotients", -9, x.like(4));
        x.cure(2, 5);
        check.due("one jar is fewer than two", 4, x.like(0));
        x.fetch(2, 0);
        check.due("whatever is left", 4, x.like(0));
        LastJars more = Check.shop("t;l5000;l4000;l6000;l5000,0000");
        check.due("one jar, though two are less as a set", 8, more.like(0));
        check.due("0 everywhere, alone", -9, Check.shop("t;l0000,0000").like(0));
        LastJars y = Check.shop("t;l5000;l5000;l5000,0000");
        check.due("the least of two", 2, y.like(0));
        check.due("the least of two", 1, y.like(1));
        check.due("the least of two", 1, y.like(2));
        LastJars z = Check.shop("t;l5000;l5100;w5000,0000");
        check.due("the same in minute 0 only", -9, z.like(0));
        LastJars last = Check.shop("t;l9100;l9100;l9000,0000");
        check.due("all ten minutes", 2, last.like(0));
        LastJars nine = Check.shop("t;l8100;p9100;w0000;l0900,0000");
        check.due("0 everywhere", 8, nine.like(2));
        check.due("0 everywhere", 4, nine.like(3));
        LastJars three = Check.shop("t;l5000;l9000;l3000;l3000,0000");
        check.due("three jars: 9 3 3 by 3", 14, three.like(0));
        check.due("one alone", -9, Check.shop("t;l5000,0000").like(0));
        check.due("jar 3", -1, y.like(3));
        check.due("jar -1", -1, y.like(-1));
        check.due("without a store", -1, new LastJars().like(0));
    }

    private static void guess() {
        check.promise("17 guess");
        LastJars x = Check.shop("t;l7300;l7400;w7000;l0000,0000");
        for (int lane = 0; lane < 3; lane++) {
            Check.lay(x, 0, lane, 99, 7, 4, 1, 0, 0, 0, 0, 0, 0, 0);
            guessed(x, lane, 1, 0, 15, 6, 3);
            guessed(x, lane, 1, 1, 3, 1, 3);
            guessed(x, lane, 1, 2, 1, 0, -9);
            guessed(x, lane, 1, 10, 1, 0, -9);
            guessed(x, lane, 0, 1, 0, 0, -9);
            guessed(x, lane, 11, 0, 15, 6, 3);
        }
        Check.lay(x, 0, 0, 3, 5);
        guessed(x, 0, 0, 1, 0, 4, 5);
        guessed(x, 0, 0, 2, 0, 2, 5);
        Check.lay(x, 0, 1, 3, 1);
        guessed(x, 1, 0, 2, 0, 1, 10);
        LastJars cut = Check.shop("t;l7000;l4000,0000");
        Check.lay(cut, 0, 0, 5, 5);
        guessed(cut, 0, 0, 2, 0, 1, 3);
        LastJars one = Check.shop("t;l7000,0000");
        one.sheet(0, 0, 0);
        guessed(one, 0, 0, 0, 1, 0, -9);
    }

    private static void guessed(LastJars x, int lane, int i, int n, int jars, int pairs, int least) {
        String call = "guess(0, " + lane + ", " + i + ", " + n + ", ";
        check.due(call + "0)", jars, x.guess(0, lane, i, n, 0));
        check.due(call + "1)", pairs, x.guess(0, lane, i, n, 1));
        check.due(call + "2)", least, x.guess(0, lane, i, n, 2));
        check.due("fault()", 0, x.fault());
    }

    private static void guessRefuses() {
        check.promise("17 guess refuses");
        LastJars x = new LastJars();
        check.due("sheet 4", -1, x.guess(4, 3, 0, 11, 3));
        check.due("sheet -1", -1, x.guess(-1, 0, 0, 0, 0));
        check.due("lane 3", -2, x.guess(0, 3, 0, 0, 0));
        check.due("lane -1", -2, x.guess(0, -1, 0, 0, 0));
        check.due("n 11", -2, x.guess(0, 0, 0, 11, 0));
        check.due("n -1", -2, x.guess(0, 0, 0, -1, 0));
        check.due("what 3", -2, x.guess(0, 0, 0, 0, 3));
        check.due("what -1", -2, x.guess(0, 0, 0, 0, -1));
        check.due("no store", -3, x.guess(0, 0, 0, 0, 0));
        Check.store(x, FOUR);
        check.due("nothing", -11, x.guess(0, 1, -1, 0, 0));
        check.due("fault()", 1, x.fault());
        x.sheet(0, 0, 4);
        check.due("CAST ahead of INDEX", -12, x.guess(0, 1, -1, 0, 0));
        check.due("fault()", 2, x.fault());
        check.due("i -1", -13, x.guess(0, 0, -1, 0, 0));
        check.due("i 5", -13, x.guess(0, 0, 5, 0, 0));
        check.due("fault()", 3, x.fault());
        check.due("one too many", -13, x.guess(0, 0, 1, 4, 0));
        check.due("just enough", 6, x.guess(0, 0, 3, 1, 0));
        check.due("fault()", 0, x.fault());
        x.guess(0, 0, 5, 0, 0);
        check.due("refused", -2, x.guess(0, 0, 5, 0, 3));
        check.due("fault() of a refused one", 0, x.fault());
    }

    private static void serve() {
        check.promise("18 serve");
        check.due("OUTSIDE ahead of STATE", -2, new LastJars().serve(4));
        check.due("OUTSIDE ahead of STATE", -2, new LastJars().serve(-2));
        check.due("no store", -3, new LastJars().serve(-1));
        served("as told", FOUR, 2, 0, 1, 1, -9);
        served("the first jar goes to whom it makes decide", "t;l9011;l1012,0009,9009", 2, 1, 0, -9, -9);
        served("the one who needs it comes last", "t;l9011,9009,9009", 1, 0, -9, -9, -9);
        served("not to one who does not decide", "t;l5011,9009,5009", 1, -9, 0, -9, -9);
        served("who does not decide gets the first jar that is free", "t;l1091;l2091,9009,9009", 0, 0, 0, -9, -9);
        served("too dear", "t;l9095;l9095,0004,0005,0006,0000", 2, -9, 0, 0, -9);
        served("just enough halves", "t;l9021;l9011,1009,1009,1009,1009", 3, 0, 0, 1, -9);
        served("nothing is left", "t;l9001,0009", 0, -9, -9, -9, -9);
        served("behind all jars: none", "t;l0010;l0010,0000,0000,0000", 2, 0, 1, -9, -9);
        served("a chain", "t;l5010;l7010;l9010,5000,7000,9000,5000", 3, 0, 1, 2, -9);
        served("a chain turned", "t;l9010;l7010;l5010,5000,7000,9000", 3, 2, 1, 0, -9);
        served("the last of six", "t;l1010;l1010;l1010;l1010;l1010;l9010,9099,9099", 1, 0, 5, -9, -9);
        served("six, and nobody", "t;l1010;l1010;l1010;l1010;l1010;l1010,9099,9099", 0, 0, 1, -9, -9);
        served("six, and all too dear", "t;l9011;l9011;l9011;l9011;l9011;l9011,0000", 0, -9, -9, -9, -9);
        LastJars x = Check.shop(FOUR);
        x.serve(0);
        check.due("nothing is sold", 7, x.many(2));
        check.due("nothing is paid", 5, x.ofDecider(0, 2));
        check.due("k 4", -2, x.serve(4));
        check.due("k -2", -2, x.serve(-2));
    }

    private static void served(String name, String text, int count, int... jars) {
        LastJars x = Check.shop(text);
        check.due(name + ": how many", count, x.serve(-1));
        for (int k = 0; k < 4; k++) {
            check.due(name + ": jar of " + k, jars[k], x.serve(k));
        }
    }

    private static void dear() {
        check.promise("19 dear");
        LastJars x = Check.shop(FOUR);
        int[] want = {9, 8, 9, 9};
        for (int j = 0; j < 4; j++) {
            check.due("dear(" + j + ")", want[j], x.dear(j));
        }
        check.due("price is as before", 4, x.ofJar(1, 4));
        LastJars one = Check.shop("t;l9092,9007,9005,9099");
        check.due("all three decide up to 5", 5, one.dear(0));
        one.pay(1, 1);
        check.due("two decide up to 7", 7, one.dear(0));
        one.pay(0, 2);
        check.due("just as dear as it is", 2, one.dear(0));
        one.dread(2, 9);
        one.price(0, 9);
        check.due("9 already", 9, one.dear(0));
        LastJars nobody = Check.shop("t;l0003;l0093,9099");
        check.due("nobody decides at all", 9, nobody.dear(0));
        LastJars other = Check.shop("t;l9011;l9011,9005");
        check.due("there is another jar", 9, other.dear(0));
        LastJars both = Check.shop("t;l9011;l9011,9005,9006");
        check.due("it goes to the one with more", 6, both.dear(0));
        check.due("jar 2", -1, both.dear(2));
        check.due("jar -1", -1, both.dear(-1));
        check.due("without a store", -1, new LastJars().dear(0));
    }
}
