import com.sun.management.ThreadMXBean;
import java.lang.management.ManagementFactory;

/** What an object and its dearest calls make stays small: all calls of a run share one room for objects. */
public final class RoomTest {
    /** Far below what the calls of one object may make, and far above what the machine makes on the side. */
    private static final long MOST_BYTES = 200_000;

    private static final ThreadMXBean THREADS = (ThreadMXBean) ManagementFactory.getThreadMXBean();

    public static void main(String[] args) {
        work();
        long before = made();
        work();
        Check.due("512 calls make little", made() - before < MOST_BYTES, true);
        Check.end();
    }

    private static long made() {
        return THREADS.getThreadAllocatedBytes(Thread.currentThread().getId());
    }

    private static void work() {
        Termgrid x = new Termgrid();
        for (int i = 0; i < 8; i++) {
            x.addRoom(i % 3, 0, 30);
            x.addTeacher(0);
            x.addGroup(20);
        }
        for (int i = 0; i < 16; i++) {
            x.addLesson(i % 8, i / 2, 0, 1 + i % 3, i % 2);
        }
        x.save();
        x.fill();
        x.save();
        for (int call = 0; call < 54; call++) {
            x.setWish(call % 8, call % 30, call % 10);
            x.improve(20);
            x.meanPossible();
            x.merge(0, 1);
            x.fill();
            x.isSound();
            x.restore(call % 2);
            x.costAnew();
        }
    }
}
