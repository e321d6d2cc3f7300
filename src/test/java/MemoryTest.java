import com.sun.management.ThreadMXBean;
import java.lang.management.ManagementFactory;

/** What the dearest calls make: all calls of one run live in one room, and nothing in it is ever given back. */
public final class MemoryTest {
    private static final int CALLS = 512;
    /** A megabyte for the 512 dearest calls: far less than the room of 600,000 objects, so that others have some too. */
    private static final long MOST_BYTES = 1 << 20;
    private static final ThreadMXBean THREADS = (ThreadMXBean) ManagementFactory.getThreadMXBean();
    private static final Check check = new Check();

    public static void main(String[] args) {
        String six = "1 if l>4;2 if l>4;3 if l>4;1 if l>4;2 if l>4;3 if l>4";
        SluiceCards x = new SluiceCards();
        Check.river(x, "reach 9 0 0;reach 9 0 0;reach 9 0 0");
        x.image();
        for (int k = 0; k < 8; k++) Check.card(x, k % 7, 0, six);
        for (int k = 0; k < 3; k++) x.hang(k, k + 1);
        long[] made = new long[7];
        for (int which = 0; which < made.length; which++) {
            long before = bytes();
            for (int k = 0; k < CALLS; k++) call(x, which);
            made[which] = bytes() - before;
        }
        SluiceCards y = new SluiceCards();
        y.image();
        long before = bytes();
        for (int k = 0; k < CALLS; k += 9) {
            for (int n = 0; n < 8; n++) Check.card(y, 1, 0, "1 if l=1");
            y.undo();
        }
        long cards = bytes() - before;
        String[] names = {"lines", "found", "fixed", "drunk", "raised", "mean", "same"};
        for (int k = 0; k < made.length; k++) check.due(CALLS + " calls of " + names[k] + ", " + made[k] + " bytes, too many", made[k] > MOST_BYTES ? 1 : 0, 0);
        check.due("cards made anew, " + cards + " bytes, too many", cards > MOST_BYTES ? 1 : 0, 0);
        check.end("MemoryTest");
    }

    private static long bytes() {
        return THREADS.getThreadAllocatedBytes(Thread.currentThread().getId());
    }

    private static void call(SluiceCards x, int which) {
        switch (which) {
            case 0: x.lines(1); break;
            case 1: x.found(0); break;
            case 2: x.fixed(-1); break;
            case 3: x.drunk(1); break;
            case 4: x.raised(); break;
            case 5: x.mean(3, 1, 0); break;
            default: x.same(0);
        }
    }
}
