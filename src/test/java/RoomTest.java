import com.sun.management.ThreadMXBean;
import java.lang.management.ManagementFactory;

/** All that an object needs is made with it: the dearest calls make nothing. */
public final class RoomTest {
    private static final Check CHECK = new Check();
    private static final ThreadMXBean THREADS = (ThreadMXBean) ManagementFactory.getThreadMXBean();

    public static void main(String[] args) {
        SaltedGate x = Texts.told(Texts.FULL);
        callAll(x);
        long before = THREADS.getThreadAllocatedBytes(Thread.currentThread().getId());
        callAll(x);
        long made = THREADS.getThreadAllocatedBytes(Thread.currentThread().getId()) - before;
        CHECK.due("bytes made by calls: " + made, made < 1000, true);

        before = THREADS.getThreadAllocatedBytes(Thread.currentThread().getId());
        SaltedGate y = new SaltedGate();
        made = THREADS.getThreadAllocatedBytes(Thread.currentThread().getId()) - before;
        CHECK.due("bytes made by an object: " + made, made < 10000 && y.trouble() == 0, true);
        CHECK.end();
    }

    private static void callAll(SaltedGate x) {
        for (int i = 0; i < 20; i++) {
            for (int k = 0; k < 3; k++) {
                x.feed(0x6f646420, i, k, 0, 0);
            }
            x.barrier(60);
            x.cheapest(0, 0);
            x.eatsAsked(0, 0, i);
            x.hideAsked(1, 1, i);
            x.cover(0, 0, i);
            x.bestGood();
            x.search(2);
            x.planned(1);
            x.planOver(true);
            x.fits();
            x.could(1);
            x.owed(999, 5, true);
            x.seizedIn(1, i, 50);
            x.eat(0);
            x.days(1);
            x.mark();
            x.undo();
            x.back(0);
        }
    }
}
