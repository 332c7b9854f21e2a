import com.sun.management.ThreadMXBean;
import java.lang.management.ManagementFactory;

/** Long runs need little room: what a call makes is counted, as nothing of it is given back. */
final class RoomTest extends Checks {
    private static final int CALLS = 512;

    public static void main(String[] args) {
        Slewyard site = new Slewyard();
        site.yard(14, 14);
        site.crane(30, 10, 9, 400, 2);
        site.crane(100, 14, 9, 400, 2);
        site.crane(160, 20, 9, 400, 2);
        site.load(31, 5);
        site.digest();
        is(true, room(site::digest) < 100_000);
        is(true, room(() -> site.drawn(7)) < 200_000);
        is(true, room(() -> site.yard(14, 14)) < 100_000);
        is(true, room(() -> yardAndCrane(site)) < 500_000);
        end("RoomTest");
    }

    private static int yardAndCrane(Slewyard site) {
        site.yard(14, 14);
        return site.crane(100, 14, 9, 400, 2) + site.step(0, 0) + site.rest(3);
    }

    /** The bytes that so many calls take. */
    private static long room(Call call) {
        ThreadMXBean threads = (ThreadMXBean) ManagementFactory.getThreadMXBean();
        long before = threads.getCurrentThreadAllocatedBytes();
        for (int k = 0; k < CALLS; k++) {
            call.make();
        }
        long taken = threads.getCurrentThreadAllocatedBytes() - before;
        return taken;
    }
}
