import com.sun.management.ThreadMXBean;
import java.lang.management.ManagementFactory;

/** Rule 12: a bench makes its rows once; its calls make no objects at all. */
public final class RoomTest {
    private static final int MOST_BYTES_OF_BENCH = 250_000;
    private static final int MOST_BYTES_OF_CALLS = 4_096;

    public static void main(String[] args) {
        ThreadMXBean bean = (ThreadMXBean) ManagementFactory.getThreadMXBean();
        long thread = Thread.currentThread().getId();
        calls(new Tongueworks());
        long before = bean.getThreadAllocatedBytes(thread);
        Tongueworks x = new Tongueworks();
        long made = bean.getThreadAllocatedBytes(thread);
        long sum = calls(x);
        long after = bean.getThreadAllocatedBytes(thread);
        Due.is("bytes of a bench, " + (made - before), made - before <= MOST_BYTES_OF_BENCH, true);
        Due.is("bytes of its calls, " + (after - made), after - made <= MOST_BYTES_OF_CALLS, true);
        Due.is("the calls were made", sum != 0, true);
        Due.close();
    }

    /** Under 512 calls, of each kind at least one. */
    private static long calls(Tongueworks x) {
        long sum = 0;
        x.want(1, 11);
        x.forbid(12, true);
        for (int round = 0; round < 6; round++) {
            x.begin();
            for (int i = 0; i < 30; i++) {
                x.add(i % 4 == 3 ? 0 : 1 + (i * 7 + round) % 5);
            }
            sum += x.take() + x.cutAt(1, true) + (x.setException(3, round % 2 == 0) ? 1 : 0);
            for (int s = 0; s < 2; s++) {
                x.hold(0, s);
                x.copy(0, s);
                sum += x.mend(0, s) + x.approve(0, s) + x.fill(0, s) + x.faults(s) + x.targetAt(s, 0);
                sum += x.valueFor(s, 0) + x.likeness(s, s) + x.targetLength(s) + x.length(s);
            }
            x.clear(0, 0);
            x.write(0, 0, 5);
            sum += x.letGo(0, 0) + x.together() + x.togetherAt(0) + x.sum() + x.stateOf(0) + x.sourceAt(0, 0);
            sum += (long) (x.approvedShare() + x.meanValue()) + x.bestFor(1) + x.bestAnew(1);
            sum += x.entries() + x.ageOf(0) + x.segments() + (x.setApart(0, x.isSound()) ? 1 : 0);
        }
        return sum;
    }
}
