/** Promises 26 to 36: sheets, telling and sniffing, kinds, the trace, faults, how many. */
public final class SheetTest {
    private static final Check check = new Check("SheetTest");
    private static final String THREE = "t;l7312;w8224;p9113,4105,6208";

    public static void main(String[] args) {
        sheet();
        lose();
        put();
        cell();
        copy();
        copyRefuses();
        tell();
        sniff();
        as();
        trace();
        fault();
        faultGoes();
        many();
        check.end();
    }

    private static void sheet() {
        check.promise("26 sheet");
        LastJars x = new LastJars();
        check.due("60 cells", 1, x.sheet(3, 2, 60));
        check.due("0 cells", 1, x.sheet(0, 0, 0));
        check.due("0 at first", 0, x.cell(3, 59, 2));
        x.put(3, 59, 7);
        check.due("a new row of another lane", 1, x.sheet(3, 1, 60));
        check.due("0 again", 0, x.cell(3, 59, 1));
        x.put(3, 40, 7);
        x.sheet(3, 1, 5);
        check.due("shorter", Long.MIN_VALUE, x.cell(3, 40, 1));
        x.sheet(3, 1, 60);
        check.due("0 again", 0, x.cell(3, 40, 1));
        check.due("sheet 4", -1, x.sheet(4, 3, 61));
        check.due("sheet -1", -1, x.sheet(-1, 0, 0));
        check.due("lane 3 ahead of SIZE", -2, x.sheet(0, 3, -1));
        check.due("lane -1", -2, x.sheet(0, -1, 1));
        check.due("61 cells", -2, x.sheet(0, 0, 61));
        check.due("-1 cells", -14, x.sheet(3, 0, -1));
        check.due("fault()", 4, x.fault());
        check.due("nothing changed", 0, x.cell(3, 59, 1));
        check.due("-1 cells of nothing", -14, x.sheet(1, 0, Integer.MIN_VALUE));
        check.due("still nothing", 0, x.lose(1));
        check.due("fault() is as before", 4, x.fault());
        x.sheet(1, 0, 61);
        check.due("fault() of a refused one", 0, x.fault());
    }

    private static void lose() {
        check.promise("27 lose");
        LastJars x = new LastJars();
        check.due("had nothing", 0, x.lose(0));
        x.sheet(0, 0, 0);
        check.due("had a row of 0 cells", 1, x.lose(0));
        check.due("has nothing", 0, x.lose(0));
        check.due("put", -11, x.put(0, 0, 1));
        check.due("sheet 4", -1, x.lose(4));
        check.due("sheet -1", -1, x.lose(-1));
        check.due("fault() is not touched", 1, x.fault());
        x.sheet(2, 1, 3);
        x.put(2, 1, 5);
        x.lose(2);
        x.sheet(2, 1, 3);
        check.due("a new row", 0, x.cell(2, 1, 1));
    }

    private static void put() {
        check.promise("28 put");
        LastJars x = new LastJars();
        int[] values = {127, 128, 255, 256, -129, 32767, 32768, 65536, Integer.MAX_VALUE, Integer.MIN_VALUE, -1};
        for (int lane = 0; lane < 3; lane++) {
            x.sheet(lane, lane, 2);
            for (int v : values) {
                long want = lane == 0 ? (byte) v : lane == 1 ? (short) v : v;
                check.due("put " + v, 1, x.put(lane, 1, v));
                check.due("lane " + lane + " of " + v, want, x.cell(lane, 1, lane));
            }
            check.due("the other is as it was", 0, x.cell(lane, 0, lane));
        }
        check.due("sheet 4", -1, x.put(4, 9, 1));
        check.due("sheet -1", -1, x.put(-1, 0, 1));
        check.due("nothing ahead of INDEX", -11, x.put(3, 9, 1));
        check.due("fault()", 1, x.fault());
        check.due("cell 2", -13, x.put(0, 2, 1));
        check.due("cell -1", -13, x.put(0, -1, 1));
        check.due("fault()", 3, x.fault());
        check.due("refused", -1, x.put(4, 0, 0));
        check.due("fault() of a refused one", 0, x.fault());
        x.sheet(0, 0, 0);
        check.due("of no cells", -13, x.put(0, 0, 1));
    }

    private static void cell() {
        check.promise("29 cell");
        LastJars x = new LastJars();
        check.due("sheet 4", Long.MIN_VALUE, x.cell(4, 0, 0));
        check.due("fault()", 0, x.fault());
        check.due("lane 3", Long.MIN_VALUE, x.cell(0, 0, 3));
        check.due("fault()", 0, x.fault());
        check.due("nothing", Long.MIN_VALUE, x.cell(0, -1, 2));
        check.due("nothing is no CAST", 1, x.fault());
        Check.lay(x, 0, 1, 300, -5);
        check.due("cell 0", 300, x.cell(0, 0, 1));
        check.due("cell 1", -5, x.cell(0, 1, 1));
        check.due("fault()", 0, x.fault());
        check.due("CAST ahead of INDEX", Long.MIN_VALUE, x.cell(0, 2, 2));
        check.due("fault()", 2, x.fault());
        check.due("cell 2", Long.MIN_VALUE, x.cell(0, 2, 1));
        check.due("fault()", 3, x.fault());
        check.due("cell -1", Long.MIN_VALUE, x.cell(0, -1, 1));
        check.due("fault()", 3, x.fault());
        check.due("lane -1", Long.MIN_VALUE, x.cell(0, 0, -1));
        check.due("fault() of a refused one", 0, x.fault());
        check.due("sheet -1", Long.MIN_VALUE, x.cell(-1, 0, 0));
    }

    private static void copy() {
        check.promise("30 copy");
        LastJars x = new LastJars();
        Check.lay(x, 0, 0, 1, 2, 3, 4, 5);
        check.due("onto itself, ahead", 4, x.copy(0, 0, 0, 1, 4));
        row(x, 0, 0, 1, 1, 2, 3, 4);
        check.due("onto itself, back", 3, x.copy(0, 2, 0, 0, 3));
        row(x, 0, 0, 2, 3, 4, 3, 4);
        x.sheet(1, 0, 3);
        check.due("to another", 2, x.copy(0, 1, 1, 1, 2));
        row(x, 1, 0, 0, 3, 4);
        row(x, 0, 0, 2, 3, 4, 3, 4);
        check.due("none, at the ends", 0, x.copy(0, 5, 1, 3, 0));
        check.due("fault()", 0, x.fault());
        x.put(1, 0, 9);
        row(x, 0, 0, 2, 3, 4, 3, 4);
    }

    private static void row(LastJars x, int k, int lane, int... want) {
        for (int i = 0; i < want.length; i++) {
            check.due("cell(" + k + ", " + i + ")", want[i], x.cell(k, i, lane));
        }
    }

    private static void copyRefuses() {
        check.promise("30 copy refuses");
        LastJars x = new LastJars();
        Check.lay(x, 0, 0, 1, 2, 3);
        Check.lay(x, 1, 1, 1, 2, 3);
        Check.lay(x, 2, 0, 7, 8);
        check.due("sheet 4", -1, x.copy(4, 0, 3, 0, 0));
        check.due("to sheet 4", -1, x.copy(3, 0, 4, 0, 0));
        check.due("to sheet -1", -1, x.copy(0, 0, -1, 0, 0));
        check.due("fault()", 0, x.fault());
        check.due("nothing", -11, x.copy(3, -1, 1, 0, 0));
        check.due("to nothing", -11, x.copy(1, -1, 3, 0, 0));
        check.due("fault()", 1, x.fault());
        check.due("CAST ahead of INDEX", -12, x.copy(0, -1, 1, 0, 1));
        check.due("fault()", 2, x.fault());
        check.due("i -1", -13, x.copy(0, -1, 2, 0, 0));
        check.due("j -1", -13, x.copy(0, 0, 2, -1, 0));
        check.due("n -1", -13, x.copy(0, 0, 2, 0, -1));
        check.due("i 4", -13, x.copy(0, 4, 2, 0, 0));
        check.due("j 3", -13, x.copy(0, 0, 2, 3, 0));
        check.due("beyond the first", -13, x.copy(0, 2, 2, 0, 2));
        check.due("beyond the other", -13, x.copy(0, 0, 2, 1, 2));
        check.due("far beyond", -13, x.copy(0, 1, 2, 1, Integer.MAX_VALUE));
        check.due("fault()", 3, x.fault());
        row(x, 2, 0, 7, 8);
        x.copy(0, 4, 2, 0, 0);
        check.due("refused", -1, x.copy(0, 0, 4, 0, 0));
        check.due("fault() of a refused one", 0, x.fault());
    }

    private static void tell() {
        check.promise("31 tell");
        LastJars x = Check.shop(THREE);
        int trace = 0;
        check.due("leaf", 7, x.tell(0));
        trace = left(trace, 1);
        check.due("its trace", trace, x.trace());
        check.due("twist", 108, x.tell(1));
        trace = left(trace, 2, 1);
        check.due("its trace", trace, x.trace());
        check.due("plug", 118, x.tell(2));
        trace = left(trace, 3, 2, 1, 1);
        check.due("its trace", trace, x.trace());
        check.due("jar 3", -1, x.tell(3));
        check.due("jar -1", -1, x.tell(-1));
        check.due("trace is as before", trace, x.trace());
        x.cure(2, 0);
        check.due("plug, cured", 100, x.tell(2));
        check.due("without a store", -1, new LastJars().tell(0));
    }

    private static void sniff() {
        check.promise("32 sniff");
        LastJars x = Check.shop("t;l7312;w8224;p9113;w1111,4105");
        check.due("leaf", 0, x.sniff(0));
        check.due("twist", 1, x.sniff(1));
        check.due("trace", left(0, 4, 4), x.trace());
        check.due("plug", 80, x.sniff(2));
        check.due("trace", left(0, 4, 4, 5), x.trace());
        check.due("twist", 3, x.sniff(3));
        check.due("jar 4", -1, x.sniff(4));
        check.due("jar -1", -1, x.sniff(-1));
        check.due("trace", left(0, 4, 4, 5, 4), x.trace());
    }

    private static int left(int trace, int... numbers) {
        for (int number : numbers) {
            trace = 31 * trace + number;
        }
        return trace;
    }

    private static void as() {
        check.promise("33 as");
        LastJars x = Check.shop(THREE);
        for (int j = 0; j < 3; j++) {
            for (int kind = 0; kind < 3; kind++) {
                check.due("as(" + j + ", " + kind + ")", kind <= j ? 1 : -12, x.as(j, kind));
                check.due("fault()", kind <= j ? 0 : 2, x.fault());
            }
        }
        x.as(0, 2);
        check.due("kind 3", -2, x.as(0, 3));
        check.due("fault() of a refused one", 0, x.fault());
        x.as(0, 2);
        check.due("jar 3", -1, x.as(3, 3));
        check.due("fault() of a refused one", 0, x.fault());
        check.due("kind -1", -2, x.as(2, -1));
        check.due("jar -1", -1, x.as(-1, 0));
    }

    private static void trace() {
        check.promise("34 trace");
        LastJars x = Check.shop(THREE);
        check.due("at first", 0, x.trace());
        int trace = 0;
        for (int round = 0; round < 20; round++) {
            x.tell(2);
            x.sniff(2);
            trace = left(trace, 3, 2, 1, 1, 5);
            check.due("round " + round, trace, x.trace());
        }
        check.due("asked again", trace, x.trace());
    }

    private static void fault() {
        check.promise("35 fault");
        LastJars x = Check.shop(THREE);
        check.due("at first", 0, new LastJars().fault());
        x.put(0, 0, 0);
        check.due("NULL", 1, x.fault());
        check.due("asked again", 1, x.fault());
        x.mark(9, 9);
        x.mix(9, 9);
        x.reading(9, 9, 9);
        x.sell(9, 9);
        x.lose(9);
        x.tell(0);
        x.many(9);
        x.blend(99, 99);
        x.serve(9);
        check.due("calls that name no FAULTS", 1, x.fault());
        x.as(0, 1);
        check.due("CAST", 2, x.fault());
        x.sheet(0, 0, 1);
        check.due("none", 0, x.fault());
        x.put(0, 1, 0);
        check.due("INDEX", 3, x.fault());
        x.store(0, 0, 0, -1);
        check.due("SIZE", 4, x.fault());
        x.store(0, 0, 0, 1);
        check.due("a text that is not taken is no FAULT", 0, x.fault());
    }

    /** Each call that names FAULTS leaves none behind, when it is refused and when it comes to none. */
    private static void faultGoes() {
        check.promise("35 fault goes");
        LastJars empty = new LastJars();
        gone(empty, "year without a store", -3, () -> empty.year(0, 0, 0, 0, 0));
        gone(empty, "guess without a store", -3, () -> empty.guess(0, 0, 0, 0, 0));
        LastJars x = Check.shop(THREE);
        x.sheet(1, 0, 4);
        gone(x, "store UNKNOWN", -1, () -> x.store(4, 0, 0, 0));
        gone(x, "store OUTSIDE", -2, () -> x.store(1, 3, 0, 0));
        gone(x, "store with a wrong text", -100, () -> x.store(1, 0, 0, 4));
        gone(x, "store", 3, () -> x.store(3, 2, 0, THREE.length()));
        gone(x, "year UNKNOWN", -1, () -> x.year(4, 0, 0, 0, 0));
        gone(x, "year OUTSIDE", -2, () -> x.year(1, 0, 0, 21, 0));
        gone(x, "year first wrong", -101, () -> x.year(1, 0, 0, 2, 0));
        gone(x, "year", 1, () -> x.year(1, 0, 0, 1, 0));
        gone(x, "guess UNKNOWN", -1, () -> x.guess(4, 0, 0, 0, 0));
        gone(x, "guess OUTSIDE", -2, () -> x.guess(1, 0, 0, 0, 3));
        gone(x, "guess", 6, () -> x.guess(1, 0, 0, 1, 0));
        gone(x, "sheet UNKNOWN", -1, () -> x.sheet(4, 0, 0));
        gone(x, "sheet OUTSIDE", -2, () -> x.sheet(2, 3, 0));
        gone(x, "sheet", 1, () -> x.sheet(2, 0, 4));
        gone(x, "put UNKNOWN", -1, () -> x.put(4, 0, 0));
        gone(x, "put", 1, () -> x.put(2, 0, 0));
        gone(x, "cell UNKNOWN", Long.MIN_VALUE, () -> x.cell(4, 0, 0));
        gone(x, "cell OUTSIDE", Long.MIN_VALUE, () -> x.cell(2, 0, 3));
        gone(x, "cell", 0, () -> x.cell(2, 0, 0));
        gone(x, "copy UNKNOWN", -1, () -> x.copy(0, 0, 4, 0, 0));
        gone(x, "copy", 4, () -> x.copy(1, 0, 2, 0, 4));
        gone(x, "as UNKNOWN", -1, () -> x.as(3, 0));
        gone(x, "as OUTSIDE", -2, () -> x.as(0, 3));
        gone(x, "as", 1, () -> x.as(2, 2));
    }

    private static void gone(LastJars x, String name, long want, java.util.function.LongSupplier call) {
        check.due("put ahead of " + name, -11, x.put(0, 0, 0));
        check.due(name, want, call);
        check.due("fault() behind " + name, 0, x.fault());
    }

    private static void many() {
        check.promise("36 many");
        LastJars x = Check.shop(THREE);
        x.reading(0, 0, 0);
        int[] want = {3, 2, 4, 1};
        for (int what = 0; what < 4; what++) {
            check.due("many(" + what + ")", want[what], x.many(what));
        }
        check.due("many(4)", -2, x.many(4));
        check.due("many(-1)", -2, x.many(-1));
        check.due("many(4) without a store", -2, new LastJars().many(4));
        x.fetch(0, 9);
        check.due("many(2)", 12, x.many(2));
    }
}
