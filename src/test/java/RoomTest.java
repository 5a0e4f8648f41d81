import com.sun.management.ThreadMXBean;
import java.lang.management.ManagementFactory;

/** What a run of 512 dear calls makes: far below the room of 7.3 million fields and elements. */
public final class RoomTest {
    private static final long MOST_BYTES = 1500000;

    private static void dearCalls(SlotBuses x) {
        Check.again(x, "sn8d3l3b2;qf0t7m9;qf1t7m9;qf2t7m9;qf7t0m9;qf6t0m9;qf5t0l2m9;qf3t7m9;qf4t0m9");
        Check.script(x, "q0,7,0,9;t60;c1;h1;e3;w0,7;r0,3,2;t60");
        for (int i = 0; i < 70; i++) {
            x.years(40, i);
            x.gain(200, i % 2);
            x.hurt(0, i % 8, 2 + i % 8, 200);
            x.firstCome();
            x.run(0, 1);
            x.perform(0);
            x.when(1000000);
        }
    }

    public static void main(String[] args) {
        ThreadMXBean threads = (ThreadMXBean) ManagementFactory.getThreadMXBean();
        long id = Thread.currentThread().getId();
        dearCalls(new SlotBuses());
        long before = threads.getThreadAllocatedBytes(id);
        dearCalls(new SlotBuses());
        long made = threads.getThreadAllocatedBytes(id) - before;
        System.out.println(made + " bytes made by a dear run");
        Check.due("more than the room", made > MOST_BYTES, false);
        Check.finish();
    }
}
