import java.util.ArrayList;
import java.util.List;
import java.util.function.Consumer;
import java.util.function.Function;
import java.util.function.Supplier;

/**
 * "A method that throws an exception changes nothing. If several exceptions apply, the one that is
 * named first is thrown." Each method with a Throws row is called with all its edge arguments, one
 * with the other, on objects from new to full; a refused call leaves all that the object answers,
 * its history too.
 */
public final class RefusalsTest {
    private static final Checks CHECKS = new Checks();
    private static final int[] SIZES = {Integer.MIN_VALUE, -1, 0, 1, 2, 32, 33, Integer.MAX_VALUE};

    private final String state;
    private final int buffered;
    private final Supplier<DeltaUpdater> maker;
    private final int versions;
    private final int patches;
    private final List<Object> answersBefore;
    private int refused = 0;

    private RefusalsTest(String state, int buffered, Supplier<DeltaUpdater> maker) {
        this.state = state;
        this.buffered = buffered;
        this.maker = maker;
        DeltaUpdater made = maker.get();
        versions = made.versions();
        patches = made.patches();
        answersBefore = answers(x -> { });
    }

    public static void main(String[] args) {
        new RefusalsTest("new", 0, DeltaUpdater::new).run();
        new RefusalsTest("small", 8, RefusalsTest::small).run();
        new RefusalsTest("full", 400, RefusalsTest::full).run();
        CHECKS.end();
    }

    private static DeltaUpdater small() {
        DeltaUpdater x = Checks.withVersions("abcd", "cd-ab", "", "abcd", "abc");
        x.difference(0, 1, 2);
        x.difference(1, 3, 2);
        x.difference(2, 4, 2);
        x.installVersion(1);
        x.installVersion(0);
        x.feed(0x0102030405060708L, 8);
        return x;
    }

    /** All that has a bound is full. */
    private static DeltaUpdater full() {
        DeltaUpdater x = Checks.withVersions("abcd", "cd-ab", "", "abcd", "abc");
        x.difference(0, 1, 2);
        x.difference(1, 3, 2);
        x.difference(2, 4, 2);
        x.compose(0, 1);
        for (int i = 4; i < 12; i++) {
            x.difference(i % 5, i % 4, 2);
        }
        for (int i = 5; i < 12; i++) {
            x.apply(0, 3);
        }
        for (int i = 0; i < 30; i++) {
            x.installVersion(i % 4);
        }
        x.installVersion(0);
        Checks.feedText(x, "z".repeat(400));
        return x;
    }

    private void run() {
        feedAndStore();
        ofVersions();
        ofTwoVersions();
        ofBlocks();
        difference();
        ofPatches();
        compose();
        apply();
        installation();
        CHECKS.due(state + ": some calls are refused", true, () -> refused > 50);
    }

    // ---- what is called

    private void feedAndStore() {
        int[] numbers = {Integer.MIN_VALUE, -1, 0, 1, 8, 9, Integer.MAX_VALUE};
        for (int n : numbers) {
            Class<?> due = n < 1 || n > 8 ? Checks.ARGUMENT
                    : buffered + n > 400 ? Checks.STATE : null;
            refused("feed " + n, due, x -> x.feed(-1, n));
        }
        refused("store", versions == 12 ? Checks.STATE : null, DeltaUpdater::store);
    }

    private void ofVersions() {
        for (int v : numbers(versions)) {
            refused("length " + v, index(isVersion(v)), x -> x.length(v));
            refused("installVersion " + v, index(isVersion(v)), x -> x.installVersion(v));
            refused("isInstalled " + v, index(isVersion(v)), x -> x.isInstalled(v));
            int length = lengthOf(v);
            for (int place : numbers(length)) {
                boolean there = isVersion(v) && place >= 0 && place < length;
                refused("byteAt " + v + " " + place, index(there), x -> x.byteAt(v, place));
                int[] counts = {Integer.MIN_VALUE, -1, 0, 1, length, length + 1, 32, 33,
                    Integer.MAX_VALUE};
                for (int n : counts) {
                    boolean fits = n >= 1 && n <= 32 && place >= 0 && (long) place + n <= length;
                    refused("weakSum " + v + " " + place + " " + n,
                            !isVersion(v) ? Checks.INDEX : fits ? null : Checks.ARGUMENT,
                            x -> x.weakSum(v, place, n));
                }
            }
        }
    }

    private void ofTwoVersions() {
        for (int a : numbers(versions)) {
            for (int b : numbers(versions)) {
                Class<?> due = index(isVersion(a) && isVersion(b));
                refused("areSame " + a + " " + b, due, x -> x.areSame(a, b));
                refused("steps " + a + " " + b, due, x -> x.steps(a, b));
                refused("leastCost " + a + " " + b, due, x -> x.leastCost(a, b));
            }
        }
    }

    private void ofBlocks() {
        for (int v : numbers(versions)) {
            for (int size : SIZES) {
                Class<?> due = !isVersion(v) ? Checks.INDEX : isSize(size) ? null : Checks.ARGUMENT;
                refused("collisions " + v + " " + size, due, x -> x.collisions(v, size));
                refused("differentBlocks " + v + " " + size, due, x -> x.differentBlocks(v, size));
            }
        }
    }

    private void difference() {
        for (int base : numbers(versions)) {
            for (int goal : numbers(versions)) {
                for (int size : SIZES) {
                    Class<?> due = !isVersion(base) || !isVersion(goal) ? Checks.INDEX
                            : !isSize(size) ? Checks.ARGUMENT : patches == 12 ? Checks.STATE : null;
                    refused("difference " + base + " " + goal + " " + size, due,
                            x -> x.difference(base, goal, size));
                }
            }
        }
    }

    private void ofPatches() {
        for (int p : numbers(patches)) {
            Class<?> due = index(isPatch(p));
            refused("instructions " + p, due, x -> x.instructions(p));
            refused("cost " + p, due, x -> x.cost(p));
            refused("newness " + p, due, x -> x.newness(p));
            int count = isPatch(p) ? maker.get().instructions(p) : 0;
            for (int i : numbers(count)) {
                int[] whats = {Integer.MIN_VALUE, -1, 0, 3, 4, Integer.MAX_VALUE};
                for (int what : whats) {
                    boolean there = isPatch(p) && i >= 0 && i < count && what >= 0 && what <= 3;
                    refused("instruction " + p + " " + i + " " + what, index(there),
                            x -> x.instruction(p, i, what));
                }
            }
        }
    }

    private void compose() {
        for (int p : numbers(patches)) {
            for (int q : numbers(patches)) {
                boolean there = isPatch(p) && isPatch(q);
                boolean fit = there && goalOf(p).equals(baseOf(q));
                Class<?> due = !there ? Checks.INDEX : !fit ? Checks.ARGUMENT
                        : patches == 12 ? Checks.STATE : null;
                refused("compose " + p + " " + q, due, x -> x.compose(p, q));
            }
        }
    }

    private void apply() {
        for (int p : numbers(patches)) {
            for (int v : numbers(versions)) {
                boolean there = isPatch(p) && isVersion(v);
                boolean fit = there && baseOf(p).equals(Checks.textOf(maker.get(), v));
                Class<?> due = !there ? Checks.INDEX : !fit ? Checks.ARGUMENT
                        : versions == 12 ? Checks.STATE : null;
                refused("apply " + p + " " + v, due, x -> x.apply(p, v));
            }
        }
    }

    private void installation() {
        for (int p : numbers(patches)) {
            // "abcd" is installed wherever there is a patch
            Class<?> due = !isPatch(p) ? Checks.INDEX
                    : baseOf(p).equals("abcd") ? null : Checks.ARGUMENT;
            refused("installPatch " + p, due, x -> x.installPatch(p));
        }
        refused("rollBack", versions == 0 ? Checks.STATE : null, DeltaUpdater::rollBack);
    }

    // ---- what is known of the states

    /** The numbers of what there is, and those on both sides of them. */
    private static int[] numbers(int count) {
        int[] numbers = new int[count + 4];
        numbers[0] = Integer.MIN_VALUE;
        for (int i = -1; i <= count; i++) {
            numbers[i + 2] = i;
        }
        numbers[count + 3] = Integer.MAX_VALUE;
        return numbers;
    }

    private boolean isVersion(int number) {
        return number >= 0 && number < versions;
    }

    private boolean isPatch(int number) {
        return number >= 0 && number < patches;
    }

    private static boolean isSize(int size) {
        return size >= 2 && size <= 32;
    }

    private static Class<?> index(boolean there) {
        return there ? null : Checks.INDEX;
    }

    private int lengthOf(int version) {
        return isVersion(version) ? maker.get().length(version) : 0;
    }

    private static final String[] TEXTS = {"abcd", "cd-ab", "", "abcd", "abc"};
    private static final int[] BASES = {0, 1, 2, 0};
    private static final int[] GOALS = {1, 3, 4, 3};

    private static String baseOf(int patch) {
        return TEXTS[patch < 4 ? BASES[patch] : patch % 5];
    }

    private static String goalOf(int patch) {
        return TEXTS[patch < 4 ? GOALS[patch] : patch % 4];
    }

    // ---- what is held

    /** The call throws what is due, if something is, and changes nothing then. */
    private void refused(String name, Class<?> due, Function<DeltaUpdater, Object> call) {
        DeltaUpdater on = maker.get();
        Object outcome = Checks.outcome(() -> call.apply(on));
        if (due == null) {
            CHECKS.due(state + ": " + name + " throws", false, () -> outcome instanceof Class);
            return;
        }
        refused++;
        CHECKS.due(state + ": " + name, due, () -> outcome);
        CHECKS.due(state + ": " + name + " changes nothing", answersBefore,
                () -> answers(x -> Checks.outcome(() -> call.apply(x))));
    }

    /** What objects of this state answer behind a call: several, for at most 512 calls each. */
    private List<Object> answers(Consumer<DeltaUpdater> call) {
        List<Object> all = new ArrayList<>();
        DeltaUpdater x = maker.get();
        call.accept(x);
        addSums(x, all);
        DeltaUpdater y = maker.get();
        call.accept(y);
        addWays(y, all);
        DeltaUpdater z = maker.get();
        call.accept(z);
        addHistory(z, all);
        return all;
    }

    private void addSums(DeltaUpdater x, List<Object> all) {
        all.add(x.versions());
        all.add(x.patches());
        all.add(x.installedLength());
        all.add(x.digest());
        for (int v = 0; v < versions; v++) {
            all.add(Checks.textOf(x, v));
            all.add(x.isInstalled(v));
        }
        for (int p = 0; p < patches; p++) {
            all.add(x.instructions(p));
            all.add(x.cost(p));
            all.add(x.newness(p));
        }
    }

    private void addWays(DeltaUpdater x, List<Object> all) {
        for (int from = 0; from < versions; from++) {
            for (int to = 0; to < versions; to++) {
                all.add(x.steps(from, to));
                all.add(x.leastCost(from, to));
            }
        }
    }

    /** The digest holds the bytes that are installed, behind each step back. */
    private static void addHistory(DeltaUpdater x, List<Object> all) {
        Object left = Checks.outcome(x::rollBack);
        for (int i = 0; i < 20 && left instanceof Integer; i++) {
            all.add(left);
            all.add(x.digest());
            left = Checks.outcome(x::rollBack);
        }
        all.add(left);
    }
}
