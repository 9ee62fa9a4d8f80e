/** Promises 26 to 36: each number at its bounds, one below and one above; the empty and the full case. */
public final class SheetBoundTest {
    private static final Check check = new Check("SheetBoundTest");
    private static final long LOST = Long.MIN_VALUE;
    private static final int UNKNOWN = -1, OUTSIDE = -2, NULL = -11, CAST = -12, INDEX = -13, SIZE = -14;
    private static final int MIN = Integer.MIN_VALUE, MAX = Integer.MAX_VALUE;
    private static final String FULL_STORE = "t;l9099;w9199;p9299;l8399;w7499;p6999,9199,8299,7399,0999";

    public static void main(String[] args) {
        lengths();
        newRows();
        losses();
        cellsOfRows();
        cuts();
        copies();
        copiesOntoItself();
        copyBounds();
        tellings();
        sniffs();
        kinds();
        traceWraps();
        traceIsLeftAlone();
        faults();
        howMany();
        check.end();
    }

    private static void lengths() {
        check.promise("26 sheet: lengths");
        for (int lane = 0; lane < 3; lane++) {
            for (int n : new int[] {0, 1, 59, 60}) {
                LastJars x = new LastJars();
                check.due("n " + n, 1, x.sheet(0, lane, n));
                check.due("the last cell of " + n, n == 0 ? LOST : 0, x.cell(0, n - 1, lane));
                check.due("the one behind it", LOST, x.cell(0, n, lane));
                check.due("fault()", 3, x.fault());
            }
            for (int n : new int[] {61, 62, MAX}) {
                refused("n " + n, OUTSIDE, lane, n, 0);
            }
            for (int n : new int[] {-1, -2, MIN}) {
                refused("n " + n, SIZE, lane, n, 4);
            }
        }
    }

    /** Of a sheet with nothing, and of one with a row: it is as it was. */
    private static void refused(String name, long answer, int lane, int n, int fault) {
        LastJars x = new LastJars();
        Check.lay(x, 1, 2, 5, 6);
        check.due(name + " of nothing", answer, x.sheet(0, lane, n));
        check.due("fault()", fault, x.fault());
        check.due("it has nothing still", 0, x.lose(0));
        check.due(name + " of a row", answer, x.sheet(1, lane, n));
        check.due("fault()", fault, x.fault());
        check.due("its first cell", 5, x.cell(1, 0, 2));
        check.due("its last cell", 6, x.cell(1, 1, 2));
        check.due("no more", LOST, x.cell(1, 2, 2));
    }

    private static void newRows() {
        check.promise("26 sheet: a new row");
        for (int lane = 0; lane < 3; lane++) {
            for (int next = 0; next < 3; next++) {
                LastJars x = new LastJars();
                x.sheet(2, lane, 60);
                for (int i = 0; i < 60; i++) {
                    x.put(2, i, 100 + i);
                }
                check.due("of another lane, perhaps", 1, x.sheet(2, next, 60));
                for (int i = 0; i < 60; i++) {
                    check.due("0 at first", 0, x.cell(2, i, next));
                }
                check.due("the old lane", lane == next ? 0 : LOST, x.cell(2, 0, lane));
            }
        }
    }

    private static void losses() {
        check.promise("27 lose");
        LastJars x = new LastJars();
        for (int k = 0; k < 4; k++) {
            check.due("it has nothing", 0, x.lose(k));
            x.sheet(k, 0, k == 0 ? 0 : 60);
        }
        for (int k = 0; k < 4; k++) {
            check.due("it had a row", 1, x.lose(k));
            check.due("it has nothing", 0, x.lose(k));
            for (int lane = 0; lane < 3; lane++) {
                check.due("no cell", LOST, x.cell(k, 0, lane));
                check.due("nothing is no CAST", 1, x.fault());
                check.due("no text", NULL, x.store(k, lane, 0, 0));
            }
            check.due("the next has its own", k == 3 ? UNKNOWN : 1, x.put(k + 1, k == 3 ? 0 : 59, 1));
        }
    }

    private static void cellsOfRows() {
        check.promise("28, 29 put, cell: INDEX");
        for (int lane = 0; lane < 3; lane++) {
            for (int length : new int[] {0, 1, 5, 60}) {
                LastJars x = new LastJars();
                x.sheet(3, lane, length);
                for (int i : new int[] {MIN, -1, 0, length - 1, length, length + 1, 59, 60, 61, MAX}) {
                    boolean there = i >= 0 && i < length;
                    check.due("put " + i + " of " + length, there ? 1 : INDEX, x.put(3, i, 7));
                    check.due("fault()", there ? 0 : 3, x.fault());
                    check.due("cell " + i + " of " + length, there ? 7 : LOST, x.cell(3, i, lane));
                    check.due("fault()", there ? 0 : 3, x.fault());
                }
            }
        }
        LastJars x = new LastJars();
        for (int i : new int[] {MIN, -1, 0, 60, MAX}) {
            check.due("put " + i + " of nothing", NULL, x.put(0, i, 7));
            check.due("fault()", 1, x.fault());
            check.due("cell " + i + " of nothing", LOST, x.cell(0, i, 0));
            check.due("fault()", 1, x.fault());
        }
    }

    private static void cuts() {
        check.promise("28 put: what comes is cut");
        int[][] cut = {
            {0, 0, 0, 0}, {127, 127, 127, 127}, {128, -128, 128, 128}, {255, -1, 255, 255}, {256, 0, 256, 256},
            {-128, -128, -128, -128}, {-129, 127, -129, -129}, {32767, -1, 32767, 32767}, {32768, 0, -32768, 32768},
            {-32768, 0, -32768, -32768}, {-32769, -1, 32767, -32769}, {65535, -1, -1, 65535}, {65536, 0, 0, 65536},
            {MAX, -1, -1, MAX}, {MIN, 0, 0, MIN}};
        for (int[] row : cut) {
            for (int lane = 0; lane < 3; lane++) {
                LastJars x = new LastJars();
                x.sheet(0, lane, 3);
                check.due("put " + row[0], 1, x.put(0, 1, row[0]));
                check.due(row[0] + " in lane " + lane, row[1 + lane], x.cell(0, 1, lane));
                check.due("the cell ahead of it", 0, x.cell(0, 0, lane));
                check.due("the cell behind it", 0, x.cell(0, 2, lane));
            }
        }
    }

    private static void row(LastJars x, int k, int lane, int... want) {
        for (int i = 0; i < want.length; i++) {
            check.due("cell " + i + " of " + k, want[i], x.cell(k, i, lane));
        }
    }

    private static void copies() {
        check.promise("30 copy");
        for (int lane = 0; lane < 3; lane++) {
            LastJars x = new LastJars();
            x.sheet(0, lane, 60);
            x.sheet(1, lane, 60);
            for (int i = 0; i < 60; i++) {
                x.put(0, i, i - 30);
            }
            check.due("all 60", 60, x.copy(0, 0, 1, 0, 60));
            for (int i = 0; i < 60; i++) {
                check.due("cell " + i, i - 30, x.cell(1, i, lane));
            }
            check.due("the first to the last", 1, x.copy(0, 0, 1, 59, 1));
            check.due("it is there", -30, x.cell(1, 59, lane));
            check.due("the one ahead of it is as it was", 28, x.cell(1, 58, lane));
            check.due("all of a row onto itself", 60, x.copy(0, 0, 0, 0, 60));
            check.due("its last", 29, x.cell(0, 59, lane));
        }
    }

    private static void copiesOntoItself() {
        check.promise("30 copy: as they were");
        LastJars x = new LastJars();
        Check.lay(x, 0, 2, 1, 2, 3, 4, 5, 6);
        check.due("one on", 5, x.copy(0, 0, 0, 1, 5));
        row(x, 0, 2, 1, 1, 2, 3, 4, 5);
        Check.lay(x, 0, 2, 1, 2, 3, 4, 5, 6);
        check.due("two on", 4, x.copy(0, 0, 0, 2, 4));
        row(x, 0, 2, 1, 2, 1, 2, 3, 4);
        Check.lay(x, 0, 2, 1, 2, 3, 4, 5, 6);
        check.due("one back", 5, x.copy(0, 1, 0, 0, 5));
        row(x, 0, 2, 2, 3, 4, 5, 6, 6);
    }

    private static void copyBounds() {
        check.promise("30 copy: INDEX");
        int[][] edges = {{0, 0, 0, 0}, {0, 0, 4, 4}, {4, 0, 0, 0}, {0, 6, 0, 0}, {4, 6, 0, 0}, {0, 2, 4, 4}, {1, 3, 3, 3},
            {-1, 0, 0, INDEX}, {0, -1, 0, INDEX}, {0, 0, -1, INDEX}, {5, 0, 0, INDEX}, {0, 7, 0, INDEX}, {0, 3, 4, INDEX},
            {0, 0, 5, INDEX}, {1, 0, 4, INDEX}, {4, 0, 1, INDEX}, {0, 6, 1, INDEX}, {3, 5, 2, INDEX}, {MIN, 0, 1, INDEX},
            {0, MIN, 1, INDEX}, {0, 0, MIN, INDEX}, {MAX, 0, 1, INDEX}, {0, MAX, 1, INDEX}, {0, 0, MAX, INDEX},
            {MAX, MAX, MAX, INDEX}, {1, 1, MAX, INDEX}, {4, 6, -1, INDEX}};
        for (int[] e : edges) {
            LastJars x = new LastJars();
            Check.lay(x, 0, 0, 1, 2, 3, 4);
            Check.lay(x, 1, 0, 9, 9, 9, 9, 9, 9);
            String told = " from " + e[0] + " to " + e[1] + ", " + e[2] + " cells";
            check.due("copy" + told, e[3], x.copy(0, e[0], 1, e[1], e[2]));
            check.due("fault() behind" + told, e[3] == INDEX ? 3 : 0, x.fault());
            for (int j = 0; j < 6; j++) {
                boolean came = e[3] > 0 && j >= e[1] && j < e[1] + e[2];
                check.due("cell " + j + told, came ? 1 + e[0] + j - e[1] : 9, x.cell(1, j, 0));
            }
        }
        LastJars x = new LastJars();
        x.sheet(0, 1, 0);
        check.due("none of no cells", 0, x.copy(0, 0, 0, 0, 0));
        check.due("one of no cells", INDEX, x.copy(0, 0, 0, 0, 1));
        x.sheet(1, 2, 0);
        check.due("no cells of another lane", CAST, x.copy(0, 0, 1, 0, 0));
        check.due("from nothing", NULL, x.copy(2, 0, 1, 0, 0));
        check.due("to nothing", NULL, x.copy(1, 0, 2, 0, 0));
        check.due("from nothing to itself", NULL, x.copy(2, 0, 2, 0, 0));
    }

    private static void tellings() {
        check.promise("31 tell");
        LastJars x = Check.shop(FULL_STORE);
        int[] want = {9, 109, 118, 8, 107, 112};
        for (int j = 0; j < 6; j++) {
            check.due("jar " + j, want[j], x.tell(j));
            x.cure(j, 0);
            check.due("of SURE 0: jar " + j, new int[] {0, 100, 100}[j % 3], x.tell(j));
        }
    }

    private static void sniffs() {
        check.promise("32 sniff");
        LastJars x = Check.shop(FULL_STORE);
        int[] want = {0, 1, 80, 3, 4, 80};
        for (int j = 0; j < 6; j++) {
            check.due("jar " + j, want[j], x.sniff(j));
        }
    }

    private static void kinds() {
        check.promise("33 as");
        LastJars x = Check.shop(FULL_STORE);
        for (int j = 0; j < 6; j++) {
            for (int kind : new int[] {MIN, -1, 0, 1, 2, 3, MAX}) {
                int want = kind < 0 || kind > 2 ? OUTSIDE : kind > j % 3 ? CAST : 1;
                check.due("jar " + j + " as " + kind, want, x.as(j, kind));
                check.due("fault()", want == CAST ? 2 : 0, x.fault());
            }
        }
        check.due("jar 6", UNKNOWN, x.as(6, 3));
        check.due("fault()", 0, x.fault());
    }

    /** The numbers are written out, not reckoned as the class does it; the eighth body is the first by which it wraps. */
    private static void traceWraps() {
        check.promise("34 trace: it wraps");
        LastJars x = Check.shop(FULL_STORE);
        int[] want = {1, 32, 993, 30784, 954305, 29583456, 917087137, -1635069824, 852443009};
        check.due("at first", 0, x.trace());
        for (int body = 0; body < want.length; body++) {
            x.tell(0);
            check.due("behind body " + (body + 1), want[body], x.trace());
        }
        LastJars plug = Check.shop(FULL_STORE);
        plug.tell(2);
        check.due("3 2 1 1", 91327, plug.trace());
        plug.sniff(2);
        check.due("3 2 1 1 5", 2831142, plug.trace());
        plug.tell(1);
        check.due("3 2 1 1 5 2 1", 2720727525L - 4294967296L, plug.trace());
    }

    private static void traceIsLeftAlone() {
        check.promise("34 trace: by refused calls");
        LastJars x = Check.shop(FULL_STORE);
        x.sniff(5);
        for (int j : new int[] {-1, 6, MIN, MAX}) {
            x.tell(j);
            x.sniff(j);
        }
        check.due("trace()", 5, x.trace());
        LastJars none = new LastJars();
        none.tell(0);
        none.sniff(0);
        check.due("without a store", 0, none.trace());
    }

    private static void faults() {
        check.promise("35 fault");
        LastJars x = new LastJars();
        check.due("ahead of any", 0, x.fault());
        x.lose(0);
        x.many(0);
        x.mark(0, 0);
        check.due("ahead of any that names one", 0, x.fault());
        check.due("NULL", NULL, x.put(0, 0, 0));
        check.due("1", 1, x.fault());
        check.due("refused", UNKNOWN, x.put(4, 0, 0));
        check.due("0", 0, x.fault());
        check.due("SIZE", SIZE, x.sheet(0, 0, -1));
        check.due("4", 4, x.fault());
        check.due("it came to none", 1, x.sheet(0, 0, 0));
        check.due("0", 0, x.fault());
        check.due("INDEX", INDEX, x.put(0, 0, 0));
        check.due("3", 3, x.fault());
        check.due("names none", 1, x.lose(0));
        check.due("3 still", 3, x.fault());
        Check.store(x, FULL_STORE);
        check.due("a text that is taken", 0, x.fault());
        check.due("CAST", CAST, x.as(0, 1));
        check.due("2", 2, x.fault());
        check.due("asked once more", 2, x.fault());
    }

    private static void howMany() {
        check.promise("36 many");
        LastJars none = new LastJars();
        LastJars full = Check.shop(FULL_STORE);
        for (int r = 0; r < 8; r++) {
            full.reading(0, 0, 0);
        }
        LastJars least = Check.shop("t;l0000,0000");
        int[][] want = {{0, 0, 0, 0}, {6, 4, 54, 8}, {1, 1, 0, 0}};
        for (int what : new int[] {MIN, -1, 0, 1, 2, 3, 4, MAX}) {
            boolean told = what >= 0 && what < 4;
            check.due("without a store: " + what, told ? want[0][what] : OUTSIDE, none.many(what));
            check.due("all that there may be: " + what, told ? want[1][what] : OUTSIDE, full.many(what));
            check.due("the least: " + what, told ? want[2][what] : OUTSIDE, least.many(what));
        }
        full.sell(0, 5);
        check.due("one is sold", 53, full.many(2));
    }
}
