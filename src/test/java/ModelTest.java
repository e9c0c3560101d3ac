/** Long runs of mixed calls, the same ones each time, answered as the model answers them. */
public final class ModelTest {
    private static final int RUNS = 300;
    private static final int CALLS = 512;
    private static final Checks CHECKS = new Checks();

    private long seed;
    private int calls = 0;
    private final DeltaUpdater real = new DeltaUpdater();
    private final Model model = new Model();
    private final int letters;
    private final int feeding;

    private ModelTest(int run) {
        seed = run * 0x9E3779B97F4A7C15L + 1;
        letters = 1 + below(4);
        feeding = 1 + below(30);
    }

    public static void main(String[] args) {
        for (int run = 0; run < RUNS; run++) {
            new ModelTest(run).run(run);
        }
        CHECKS.end();
    }

    private int below(int bound) {
        seed = seed * 6364136223846793005L + 1442695040888963407L;
        return (int) ((seed >>> 33) % bound);
    }

    private void run(int run) {
        while (calls < CALLS) {
            String at = "run " + run + ", call " + calls + ": ";
            next(at);
            same(at + "digest", real::digest, model::digest);
        }
    }

    /** Asks both, up to the last call that the document promises an answer to. */
    private void same(String what, Checks.Call asked, Checks.Call due) {
        if (calls < CALLS) {
            calls++;
            CHECKS.due(what, Checks.outcome(due), asked);
        }
    }

    /** A number of a version or patch: mostly one there is. */
    private int number(int count) {
        return below(12) == 0 ? odd() : below(count + 1) - (below(20) == 0 ? 1 : 0);
    }

    private int odd() {
        int[] odd = {-1, 12, 13, Integer.MIN_VALUE, Integer.MAX_VALUE, -2};
        return odd[below(odd.length)];
    }

    private int size() {
        return below(20) == 0 ? odd() : below(5) == 0 ? below(36) : 2 + below(4);
    }

    private long bytes() {
        if (letters == 4 && below(3) == 0) {
            return (long) below(1 << 30) << 34 ^ (long) below(1 << 30) << 10 ^ below(1 << 20);
        }
        long bytes = 0;
        for (int i = 0; i < 8; i++) {
            bytes = bytes << 8 | (letters == 3 ? 255 - below(3) : below(letters));
        }
        return bytes;
    }

    private void feed(String at) {
        for (int i = below(feeding); i >= 0; i--) {
            long bytes = bytes();
            int n = below(30) == 0 ? odd() : below(20) == 0 ? 9 : 1 + below(8);
            same(at + "feed", () -> real.feed(bytes, n), () -> model.feed(bytes, n));
        }
    }

    private void next(String at) {
        int kind = below(10);
        if (kind < 3) {
            nextOfVersions(at);
        } else if (kind < 8) {
            nextOfPatches(at);
        } else {
            nextOfInstallation(at);
        }
    }

    private void nextOfVersions(String at) {
        int a = number(model.versions());
        int b = number(model.versions());
        int place = below(12) == 0 ? odd() : below(50);
        int n = below(12) == 0 ? odd() : below(35);
        int size = size();
        switch (below(9)) {
            case 0 -> feed(at);
            case 1 -> {
                feed(at);
                same(at + "store", real::store, model::store);
            }
            case 2 -> same(at + "versions", real::versions, model::versions);
            case 3 -> same(at + "length", () -> real.length(a), () -> model.length(a));
            case 4 -> same(at + "byteAt", () -> real.byteAt(a, place), () -> model.byteAt(a, place));
            case 5 -> same(at + "areSame", () -> real.areSame(a, b), () -> model.areSame(a, b));
            case 6 -> same(at + "weakSum", () -> real.weakSum(a, place, n),
                    () -> model.weakSum(a, place, n));
            case 7 -> same(at + "collisions", () -> real.collisions(a, size),
                    () -> model.collisions(a, size));
            default -> same(at + "differentBlocks", () -> real.differentBlocks(a, size),
                    () -> model.differentBlocks(a, size));
        }
    }

    private void nextOfPatches(String at) {
        int a = number(model.versions());
        int b = number(model.versions());
        int p = number(model.patches());
        int q = number(model.patches());
        int instruction = below(12) == 0 ? odd() : below(30);
        int what = below(12) == 0 ? odd() : below(5);
        int size = size();
        switch (below(12)) {
            case 0 -> same(at + "difference", () -> real.difference(a, b, size),
                    () -> model.difference(a, b, size));
            case 1, 2 -> same(at + "compose", () -> real.compose(p, q), () -> model.compose(p, q));
            case 3 -> same(at + "patches", real::patches, model::patches);
            case 4 -> same(at + "instructions", () -> real.instructions(p),
                    () -> model.instructions(p));
            case 5 -> same(at + "instruction", () -> real.instruction(p, instruction, what),
                    () -> model.instruction(p, instruction, what));
            case 6 -> same(at + "cost", () -> real.cost(p), () -> model.cost(p));
            case 7 -> same(at + "newness", () -> real.newness(p), () -> model.newness(p));
            case 8 -> same(at + "apply", () -> real.apply(p, a), () -> model.apply(p, a));
            case 9 -> same(at + "steps", () -> real.steps(a, b), () -> model.steps(a, b));
            default -> same(at + "leastCost", () -> real.leastCost(a, b),
                    () -> model.leastCost(a, b));
        }
    }

    private void nextOfInstallation(String at) {
        int a = number(model.versions());
        int p = number(model.patches());
        switch (below(8)) {
            case 0, 1, 2 -> same(at + "installVersion", () -> real.installVersion(a),
                    () -> model.installVersion(a));
            case 3, 4 -> same(at + "installPatch", () -> real.installPatch(p),
                    () -> model.installPatch(p));
            case 5 -> same(at + "rollBack", real::rollBack, model::rollBack);
            case 6 -> same(at + "isInstalled", () -> real.isInstalled(a),
                    () -> model.isInstalled(a));
            default -> same(at + "installedLength", real::installedLength, model::installedLength);
        }
    }
}
