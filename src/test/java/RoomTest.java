import com.sun.management.ThreadMXBean;
import java.lang.management.ManagementFactory;

/** What a run makes: an object has all its room from its constructor on, and no call makes anything more. */
public final class RoomTest {
    private static final int CALLS = 512;
    private static final long MOST_BYTES_OF_ONE = 40_000;
    /** Less than the smallest object in each of the calls of one kind would take. */
    private static final long MOST_BYTES_OF_CALLS = 16 * CALLS - 1;

    public static void main(String[] args) {
        ThreadMXBean threads = (ThreadMXBean) ManagementFactory.getThreadMXBean();
        long id = Thread.currentThread().getId();
        use(new PressGuard());
        long start = threads.getThreadAllocatedBytes(id);
        long look = threads.getThreadAllocatedBytes(id) - start;
        long ahead = threads.getThreadAllocatedBytes(id);
        PressGuard guard = new PressGuard();
        long made = threads.getThreadAllocatedBytes(id);
        use(guard);
        long used = threads.getThreadAllocatedBytes(id);
        Check.due("a new object takes " + (made - ahead) + " bytes", made - ahead <= MOST_BYTES_OF_ONE);
        Check.due("all its calls take " + (used - made - look) + " bytes more", used - made - look <= MOST_BYTES_OF_CALLS);
        Check.end();
    }

    private static void use(PressGuard guard) {
        for (int k = 0; k < 32; k++) {
            guard.step(k % 9 == 8 ? 48 : 63);
        }
        for (int k = 0; k < CALLS; k++) {
            guard.tick(k);
            guard.ticks(k, 60);
            guard.leadsTo(4);
            guard.locked(1, -9);
            guard.cause(k % 5);
            guard.followed(k % 5);
            guard.trial(k % 9, 1, 0, 0);
            guard.trials(k % 6);
            guard.reach(k, 33, 5, 0);
            guard.stick(k % 9, k % 3);
            guard.valve(k % 2, k % 3);
            if (k % 100 == 99) {
                guard.anew(2, 3, 12, 1, 4);
            }
        }
    }
}
