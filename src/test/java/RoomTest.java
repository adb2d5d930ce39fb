import com.sun.management.ThreadMXBean;
import java.lang.management.ManagementFactory;

/** The dearest calls, 512 on one object: they end, they do not throw, and they make nothing. */
public final class RoomTest {
    private static final long FEW_BYTES = 1000000;

    private RoomTest() {
    }

    public static void main(String[] args) {
        StageSteps x = full();
        ThreadMXBean bean = (ThreadMXBean) ManagementFactory.getThreadMXBean();
        long before = bean.getThreadAllocatedBytes(Thread.currentThread().getId());
        long first = x.best();
        boolean same = true;
        for (int k = 0; k < 128; k++) {
            same &= x.best() == first && x.broken(0) == 10 && x.check() == 1;
        }
        long made = bean.getThreadAllocatedBytes(Thread.currentThread().getId()) - before;
        Due.yes("22: best() answers the same again", same && first > 0);
        Due.yes("the calls make next to nothing, but made bytes: " + made, made < FEW_BYTES);
        greatNumbers();
        Due.finish("RoomTest");
    }

    /** 12 stages, 40 acts, 6 parts, 8 creeps, 8 rules. */
    private static StageSteps full() {
        StageSteps x = new StageSteps(6);
        for (int i = 0; i < 6; i++) {
            x.part(i, 100 * i + 7, 10);
            x.flex(0, i, 5 - i, 13 * i - 20);
            x.flex(7, i, (i + 2) % 6, 17 - 4 * i);
        }
        for (int k = 0; k < 8; k++) {
            x.creep(5 * k, 100 * k);
            x.rule(2, 0, 0, k == 5 ? 0 : 1000);
        }
        x.share(0, 5, 1);
        for (int s = 0; s < 12; s++) {
            x.stage(7 * s);
            if (s % 2 == 0) {
                x.add(s / 2);
            }
            if (s >= 9) {
                x.support(s - 9, true);
            }
            x.load(0, s == 11 ? 1 : 0);
            x.load(0, s);
        }
        while (x.told(1) < 40) {
            x.load(5, 20);
        }
        return x;
    }

    /** The greatest numbers that the document allows stay exact. */
    private static void greatNumbers() {
        StageSteps x = new StageSteps(2);
        x.part(0, 1000, 100000);
        x.flex(1, 0, 0, 1000);
        x.share(0, 0, 1000);
        x.release(0, 0, 1000);
        x.creep(0, 5000);
        x.stage(20000);
        x.support(0, true);
        x.add(0);
        for (int k = 0; k < 37; k++) {
            x.load(0, 1000);
        }
        Due.is("15: it carries 38000 tonnes", x.carries(0, 0), 38000000L);
        x.support(0, false);
        // 38 loads of 1000 mm each, and the release of 38000 mm, six times as high by creep
        Due.is("14: the rise", x.of(0, 3), 2L * 38000L * 6L * 1000000000L);
        Due.is("14: the cast", x.of(0, 0), (100000L - 2L * 38000L * 6L) * 1000000000L);
        Due.is("22: the camber's size", x.best(), 456000000000000L);
        Due.is("25: check", x.check(), 1);
    }
}
