import java.lang.management.ManagementFactory;

/** What the calls of one run make lives as long as the run: the dearest calls make next to nothing. */
public final class HeapTest {
    private static final Expect expect = new Expect();

    public static void main(String[] args) {
        com.sun.management.ThreadMXBean threads =
                (com.sun.management.ThreadMXBean) ManagementFactory.getThreadMXBean();
        fullRun();
        fullRun();
        long before = threads.getCurrentThreadAllocatedBytes();
        fullRun();
        long made = threads.getCurrentThreadAllocatedBytes() - before;
        expect.yes("a run of 512 calls makes some rows, not more: " + made + " bytes", made < 200000);
        expect.end();
    }

    private static void fullRun() {
        CustodyRoom x = new CustodyRoom();
        x.hand(true);
        x.hand(false);
        x.shelf(false);
        x.seals(0, 50);
        x.thing(1, 1000000);
        x.thing(2, 0);
        x.slip(1, 0, 0, -1, 0, 1, 0);
        x.slip(2, 0, 0, -1, 1, 5, 0);
        for (int n = 2; n < 400; n++) {
            x.slip(13, 0, 0, 0, 0, 1, 0);
        }
        for (int n = 0; n < 10; n++) {
            x.handing(0, 1, 0, 0);
            x.yes(n, 0, 0);
            x.yes(n, 1, 0);
            x.where(0, 0, 0, n);
            x.chain(0, n);
            x.gap(0, n, 0);
            x.due(5, n);
            x.freeze();
            x.alter(n, 6, -n);
            x.check();
        }
        expect.same("slips", x.about(3), 400);
    }
}
