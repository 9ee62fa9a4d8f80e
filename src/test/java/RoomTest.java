import java.lang.management.ManagementFactory;

/** Calls make nothing: all rows are made with the object, so that long runs fit into one room. */
public final class RoomTest {
    private static final String LARGE = "t;l9099;w9099;p9099;l8099;w8099;p8099,9999,9999,9999,9999";

    public static void main(String[] args) {
        Check check = new Check("RoomTest");
        check.promise("room");
        com.sun.management.ThreadMXBean threads = (com.sun.management.ThreadMXBean) ManagementFactory.getThreadMXBean();
        LastJars x = new LastJars();
        int[] codes = Check.codes(LARGE);
        rounds(x, codes);
        long before = threads.getThreadAllocatedBytes(Thread.currentThread().getId());
        rounds(x, codes);
        long made = threads.getThreadAllocatedBytes(Thread.currentThread().getId()) - before;
        // Less than one small object a call: what the measuring itself makes is in it, too.
        check.holds("the calls made " + made + " bytes", made < 4096);
        check.end();
    }

    private static void rounds(LastJars x, int[] codes) {
        for (int round = 0; round < 5; round++) {
            x.sheet(0, 0, codes.length);
            for (int i = 0; i < codes.length; i++) {
                x.put(0, i, codes[i]);
            }
            x.store(0, 0, 0, codes.length);
            x.sheet(1, 2, 60);
            x.year(1, 2, 0, 20, 3);
            x.copy(1, 0, 1, 1, 50);
            for (int j = 0; j < 6; j++) {
                x.dear(j);
                x.like(j);
                x.reading(j, 0, 0);
                x.sures(j);
                x.fades(j);
                x.kinds(j);
                x.tell(j);
                x.sniff(j);
                x.as(j, 2);
                x.guess(1, 2, 0, 10, j % 3);
                x.hold(63, j);
            }
            for (int b = 0; b < 4; b++) {
                x.serve(b);
                x.mix(b, 1);
                x.odds(b, 1);
                x.sell(b, b);
            }
        }
    }
}
