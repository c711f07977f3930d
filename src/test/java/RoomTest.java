import java.lang.management.ManagementFactory;

/** What is made: an object's rows once, and nothing by its calls. */
public final class RoomTest {
    private static final Check CHECK = new Check("RoomTest");
    private static final com.sun.management.ThreadMXBean THREADS =
        (com.sun.management.ThreadMXBean) ManagementFactory.getThreadMXBean();
    private static final int MOST_BYTES_AN_OBJECT = 40000;
    /** What the machine itself may make beside the calls. */
    private static final int NOISE = 4000;

    public static void main(String[] args) {
        // The first run has the classes loaded.
        calls(new RibbedLoans());
        long before = made();
        RibbedLoans x = new RibbedLoans();
        CHECK.holds("an object is small", made() - before < MOST_BYTES_AN_OBJECT);
        before = made();
        calls(x);
        CHECK.holds("calls make nothing", made() - before < NOISE);
        CHECK.end();
    }

    private static long made() {
        return THREADS.getCurrentThreadAllocatedBytes();
    }

    private static void calls(RibbedLoans x) {
        x.set(0, 20);
        x.buy(0, 12);
        for (int i = 0; i < 40; i++) {
            x.take(i % 2);
            x.hour(i % 8, i % 4);
            for (int person = 0; person < 12; person++) {
                x.borrow(person, i % 8);
                x.feeIn(person, 50, 9);
                x.breaksIn(person, 0, 0);
                x.bringBack(person, i % 8);
            }
            x.load(i % 2, i % 8, 1);
            x.toWorkshop(i % 2);
            x.mend(i % 8);
            x.unload(i % 2, i % 8, 1);
            x.level();
            x.append('l');
            x.carryOut();
            x.append('h');
            x.carryOut();
            x.clearText();
            look(x, i);
            x.restore(i % 2);
            x.undo();
        }
    }

    private static void look(RibbedLoans x, int i) {
        x.emptied();
        x.shortest(i % 2);
        x.inVan(i % 2, 0);
        for (int what = 0; what < 18; what++) {
            x.count(what);
            x.umbrella(i % 12, what);
            x.stand(i % 8, what);
            x.person(i % 12, what);
        }
    }
}
