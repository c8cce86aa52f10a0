import com.sun.management.ThreadMXBean;
import java.lang.management.ManagementFactory;

/** All calls of a run share one room, so no call that answers may make objects. */
public final class RoomTest {
    private static final ThreadMXBean THREADS = (ThreadMXBean) ManagementFactory.getThreadMXBean();

    private static long callAll(StabilitySums s) {
        long sum = s.weight(10, 3, 4, 5) + s.tank(40, 7, 1, 2, 3) + s.tank(80, 7, -1, 2, 3);
        sum += s.filled(0, 11) + s.hydro(1, 2, 3) + s.hydro(100, 5, 6) + (s.hull(-5, 5) ? 1 : 0);
        for (int what = 0; what <= 7; what++) {
            sum += s.value(what, 0) + s.value(what, 1) + s.value(what, 2) + s.count(what);
        }
        for (int what = 0; what <= 9; what++) {
            sum += s.limit(what, 1, -10000000, 10000000);
        }
        sum += s.shear(1) + s.bending(1) + s.check() + s.ballast() + s.fill(0);
        sum += s.plan(true, 0, 5) + s.plan(false, 0, 6) + s.step(1) + s.broken();
        return sum;
    }

    private static long madeBy(Runnable run) {
        long before = THREADS.getCurrentThreadAllocatedBytes();
        run.run();
        return THREADS.getCurrentThreadAllocatedBytes() - before;
    }

    public static void main(String[] args) {
        Due due = new Due();
        StabilitySums[] ships = new StabilitySums[200];
        long[] sums = new long[1];
        long forShips = madeBy(() -> {
            for (int i = 0; i < ships.length; i++) {
                ships[i] = new StabilitySums();
            }
        });
        callAll(new StabilitySums());
        madeBy(() -> sums[0] += 0);
        long forCalls = madeBy(() -> {
            for (StabilitySums ship : ships) {
                sums[0] += callAll(ship);
            }
        });
        System.out.println(forShips / ships.length + " bytes for a ship, " + forCalls + " for the calls of " + ships.length);
        due.holds("a ship is larger than it need be", forShips / ships.length < 8000);
        due.holds("calls make objects", forCalls < 20L * ships.length);
        due.end();
    }
}
