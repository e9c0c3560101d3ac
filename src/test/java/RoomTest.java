import com.sun.management.ThreadMXBean;
import java.lang.management.ManagementFactory;
import java.util.function.Consumer;

/**
 * All calls of a run live in one room, of some 600,000 objects and arrays with 7.3 million fields
 * and elements: making a full object, and then calling it up to the 512th time, takes so few bytes
 * of the heap that it can't come near this.
 */
public final class RoomTest {
    /** A new row of 400 numbers in each call would take more than this. */
    private static final long MOST_BYTES = 256 * 1024;
    private static final int TIMES = 190;
    private static final Checks CHECKS = new Checks();
    private static final ThreadMXBean THREADS =
            (ThreadMXBean) ManagementFactory.getThreadMXBean();

    public static void main(String[] args) {
        within("byteAt", x -> x.byteAt(11, 399));
        within("areSame", x -> x.areSame(0, 11));
        within("weakSum", x -> x.weakSum(11, 0, 32));
        within("collisions", x -> x.collisions(11, 2));
        within("differentBlocks", x -> x.differentBlocks(11, 2));
        within("instruction", x -> x.instruction(11, 0, 3));
        within("cost", x -> x.cost(11));
        within("newness", x -> x.newness(11));
        within("steps", x -> x.steps(0, 11));
        within("leastCost", x -> x.leastCost(0, 11));
        within("installVersion", x -> x.installVersion(11));
        within("installPatch or rollBack", RoomTest::installOrRollBack);
        within("isInstalled", x -> x.isInstalled(11));
        within("digest", DeltaUpdater::digest);
        CHECKS.end();
    }

    /** Two calls each time: with those of full() 512 at most. */
    private static void installOrRollBack(DeltaUpdater x) {
        if (x.isInstalled(0)) {
            x.installPatch(11);
        } else {
            x.rollBack();
        }
    }

    private static void within(String name, Consumer<DeltaUpdater> call) {
        // once before it counts: the first call of a kind loads classes
        call.accept(full());
        long before = THREADS.getCurrentThreadAllocatedBytes();
        DeltaUpdater x = full();
        for (int i = 0; i < TIMES; i++) {
            call.accept(x);
        }
        long taken = THREADS.getCurrentThreadAllocatedBytes() - before;
        CHECKS.due(name + " takes " + taken + " bytes, which is in bounds", true,
                () -> taken < MOST_BYTES);
    }

    /** 12 versions of 400 bytes, and 12 patches of 200 instructions, in some 125 calls. */
    private static DeltaUpdater full() {
        StringBuilder pairs = new StringBuilder();
        StringBuilder otherWay = new StringBuilder();
        for (int i = 0; i < 200; i++) {
            pairs.append(Checks.bytes(i, 255));
            otherWay.append(Checks.bytes(199 - i, 255));
        }
        DeltaUpdater x = Checks.withVersions(pairs.toString(), otherWay.toString());
        for (int patch = 0; patch < 12; patch++) {
            x.difference(0, 1, 2);
        }
        for (int version = 2; version < 12; version++) {
            x.apply(0, 0);
        }
        x.installVersion(0);
        return x;
    }
}
