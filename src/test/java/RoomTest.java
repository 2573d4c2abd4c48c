import com.sun.management.ThreadMXBean;
import java.lang.management.ManagementFactory;

/** A run of 512 calls must fit into one room, in which nothing is used again: so it makes next to nothing. */
public final class RoomTest {
    /** The states of the history and of the slots are made when they are first used: 8 of some 3000 bytes each. */
    private static final long MOST_BYTES = 100_000;

    private static final Checks CHECKS = new Checks("RoomTest");
    private static final ThreadMXBean BEAN = (ThreadMXBean) ManagementFactory.getThreadMXBean();

    public static void main(String[] args) {
        // the first rounds load classes, which counts, too
        for (int round = 0; round < 5; round++) {
            long before = BEAN.getThreadAllocatedBytes(Thread.currentThread().getId());
            go(round);
            long made = BEAN.getThreadAllocatedBytes(Thread.currentThread().getId()) - before;
            CHECKS.check(round < 2 || made <= MOST_BYTES, "a run of 512 calls made " + made + " bytes");
        }
        CHECKS.end();
    }

    private static void go(int round) {
        LeaningLines x = new LeaningLines();
        long characters = Checks.packed("p;w1;p;p");
        for (int thing = 0; thing < 8; thing++) {
            x.thing(0, thing, 16, 24, 9);
        }
        x.set(LeaningLines.EXPOSE, 20);
        int sum = 0;
        for (int time = 0; time < 45; time++) {
            sum += x.bent() + x.bestFlash(20, 1) + x.flashed() + x.shoot() + x.put(characters) + x.fault() + x.carryOut();
            sum += x.undo() + x.save(time & 1) + x.restore(time & 1) + x.seen(1, 2, 3);
        }
        CHECKS.check(sum != round, "nothing was answered");
    }
}
