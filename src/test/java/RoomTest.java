import com.sun.management.ThreadMXBean;
import java.lang.management.ManagementFactory;

/**
 * All calls of a run live in one room (LANGUAGE.md, rule 12): calls that answer make no objects,
 * but for a kind and a pallet, and what an object keeps is small.
 */
public final class RoomTest {
    /** Far above what the measuring itself makes, far below an object a call. */
    private static final long HARDLY_ANYTHING = 2000;
    private static final long OBJECT_WITH_ALL_KEPT = 20000;
    private static final int CALLS = 256;
    private static final ThreadMXBean METER = (ThreadMXBean) ManagementFactory.getThreadMXBean();

    private static long bytes() {
        return METER.getThreadAllocatedBytes(Thread.currentThread().getId());
    }

    /** All kinds, all pallets, all layers of the smallest boxes. */
    private static PalletLayers full() {
        PalletLayers x = new PalletLayers(6, 6);
        for (int i = 0; i < 6; i++) {
            x.kind(1 + i / 5, 1 + i / 4, 1, 0);
            x.search(i, 5000);
        }
        for (int i = 0; i < 8; i++) {
            x.pallet();
            x.fill(i, 0, 600);
        }
        return x;
    }

    private static void ask(PalletLayers x) {
        x.search(5, 5000);
        x.pattern(5, 0, 1);
        x.exact(5);
        x.bound(5);
        x.rules(50, 100, 10000);
        x.take(0);
        x.put(0, 0, 36);
        x.fill(0, 0, 600);
        x.support(0, 9, 35);
        x.told(0, 5);
        x.layer(0, 9, 3);
        x.truck(0, 1);
        x.order(0);
        x.count(4);
        x.unload(1);
        x.fill(0, 0, 600);
    }

    private static long made(Checks.Call call) {
        long before = bytes();
        call.run();
        return bytes() - before;
    }

    public static void main(String[] args) {
        if (!METER.isThreadAllocatedMemorySupported()) {
            System.out.println("this machine does not tell what a thread makes: nothing can be measured");
            return;
        }
        METER.setThreadAllocatedMemoryEnabled(true);
        // The first run loads classes, which makes objects of the machine's own.
        made(() -> ask(full()));
        long kept = made(() -> full());
        Checks.holds("a full object takes " + kept + " bytes", kept < OBJECT_WITH_ALL_KEPT);
        PalletLayers[] scenes = new PalletLayers[CALLS];
        for (int i = 0; i < CALLS; i++) {
            scenes[i] = full();
        }
        long asked = made(() -> {
            for (PalletLayers x : scenes) {
                ask(x);
            }
        });
        Checks.holds("calls that answer made " + asked + " bytes", asked < HARDLY_ANYTHING);
        Checks.end();
    }
}
