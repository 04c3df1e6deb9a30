import com.sun.management.ThreadMXBean;
import java.lang.management.ManagementFactory;

/** All calls of one run live in one room, so the calls that are dear in rows must make next to nothing. */
public final class RoomTest {
    /** 4096 rows of 8 bytes and little else. */
    private static final long MOST_FOR_AN_OBJECT = 64 * 1024;
    private static final long MOST_FOR_ALL_CALLS = 16 * 1024;
    private static final int ROUNDS = 75;

    public static void main(String[] args) {
        ThreadMXBean counter = (ThreadMXBean) ManagementFactory.getThreadMXBean();
        ask(full(), 1);
        long before = counter.getCurrentThreadAllocatedBytes();
        DispatchDesk desk = full();
        long built = counter.getCurrentThreadAllocatedBytes();
        ask(desk, ROUNDS);
        long asked = counter.getCurrentThreadAllocatedBytes();
        System.out.println((built - before) + " bytes to build, " + (asked - built) + " to ask");
        Due.yes("an object is small", built - before <= MOST_FOR_AN_OBJECT);
        Due.yes("calls make next to nothing", asked - built <= MOST_FOR_ALL_CALLS);
        Due.end();
    }

    /** As many classes, generics, methods, atoms and operations as can be. */
    private static DispatchDesk full() {
        DispatchDesk x = new DispatchDesk();
        for (int c = 0; c < 6; c++) {
            x.klass(c / 2);
        }
        for (int g = 0; g < 4; g++) {
            x.generic(2);
        }
        for (int m = 0; m < 12; m++) {
            x.method(m % 4);
            for (int k = 0; k < m / 4; k++) {
                x.atom(m, k, (m + k) % 2, k == 0 ? 1 : m % 3, false);
            }
            x.operation(m, 1, 0);
            x.operation(m, 1, 1);
            x.operation(m, m < 8 ? 2 : 5, m % 4);
        }
        return x;
    }

    /** Six calls a round, which with those that build stay below 512. */
    private static void ask(DispatchDesk x, int rounds) {
        x.klass(0);
        for (int k = 0; k < rounds; k++) {
            x.check(k % 4);
            x.compile(k % 4);
            x.best(k % 4, 8 + k % 8, k % 50);
            x.beyond(k % 4, 4 + k % 4);
            x.run(k % 4, 8 + k % 8, k % 50, 200);
            x.left();
        }
    }
}
