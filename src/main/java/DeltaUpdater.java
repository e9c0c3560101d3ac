import java.util.ArrayList;
import java.util.Arrays;

/** An updater by differences: versions of a file, patches between them, and an installation. */
public final class DeltaUpdater {
    private static final int MOST_VERSIONS = 12;
    private static final int MOST_PATCHES = 12;
    private static final int MOST_BYTES = 400;
    private static final int MOST_HISTORY = 20;
    private static final int MOST_FED = 8;
    private static final int MOST_SUMMED = 32;
    private static final int LEAST_SIZE = 2;
    private static final int MOST_SIZE = 32;

    private static final int COPY = 0;
    private static final int LITERAL = 1;
    private static final int COST_OF_COPY = 5;
    private static final int COST_OF_LITERAL = 2;

    private static final int KIND = 0;
    private static final int FIRST_PLACE = 1;
    private static final int BYTES_MADE = 2;
    private static final int SUM_OF_LITERAL = 3;

    /** Stands for a place, a block or a way that there is not. */
    private static final int NONE = -1;

    private static final long DIGEST_START = 233;
    private static final long DIGEST_FACTOR = 31;

    private final int[] buffer;
    private int buffered;
    private final ArrayList<Row> stored;
    private final ArrayList<Patch> made;
    private Row installed;
    private final ArrayList<Row> history;

    // Rows that calls use again and again, so that no call needs new ones.
    private final int[] blockSums;
    private final int[] reached;

    public DeltaUpdater() {
        buffer = new int[MOST_BYTES];
        buffered = 0;
        stored = new ArrayList<Row>();
        made = new ArrayList<Patch>();
        installed = new Row(new int[0], 0);
        history = new ArrayList<Row>();
        blockSums = new int[MOST_BYTES / LEAST_SIZE];
        reached = new int[MOST_VERSIONS];
    }

    // ---- versions

    public int feed(long bytes, int n) throws IllegalArgumentException, IllegalStateException {
        if (n < 1 || n > MOST_FED) {
            throw new IllegalArgumentException("n is not 1 to 8");
        }
        if (buffered + n > MOST_BYTES) {
            throw new IllegalStateException("the buffer would have too many bytes");
        }
        for (int i = 0; i < n; i++) {
            buffer[buffered + i] = (int) (bytes >>> (8 * (n - 1 - i))) & 255;
        }
        buffered += n;
        return buffered;
    }

    public int store() throws IllegalStateException {
        checkRoomForVersion();
        stored.add(new Row(buffer, buffered));
        buffered = 0;
        return stored.size() - 1;
    }

    public int versions() {
        return stored.size();
    }

    public int length(int version) throws IndexOutOfBoundsException {
        return rowOf(version).bytes.length;
    }

    public int byteAt(int version, int place) throws IndexOutOfBoundsException {
        Row row = rowOf(version);
        if (place < 0 || place >= row.bytes.length) {
            throw new IndexOutOfBoundsException("no such place");
        }
        return row.bytes[place];
    }

    public boolean areSame(int a, int b) throws IndexOutOfBoundsException {
        return rowOf(a).hasBytesOf(rowOf(b));
    }

    public int weakSum(int version, int place, int n)
            throws IndexOutOfBoundsException, IllegalArgumentException {
        Row row = rowOf(version);
        if (n < 1 || n > MOST_SUMMED) {
            throw new IllegalArgumentException("n is not 1 to 32");
        }
        if (place < 0 || place > row.bytes.length - n) {
            throw new IllegalArgumentException("there are no n bytes from the place on");
        }
        return row.sumOf(place, n);
    }

    public int collisions(int version, int size)
            throws IndexOutOfBoundsException, IllegalArgumentException {
        Row row = rowOf(version);
        checkSize(size);
        int blocks = row.bytes.length / size;
        int pairs = 0;
        for (int block = 0; block < blocks; block++) {
            blockSums[block] = row.sumOf(block * size, size);
            for (int earlier = 0; earlier < block; earlier++) {
                if (blockSums[earlier] == blockSums[block]
                        && !row.hasStretch(earlier * size, row, block * size, size)) {
                    pairs++;
                }
            }
        }
        return pairs;
    }

    public int differentBlocks(int version, int size)
            throws IndexOutOfBoundsException, IllegalArgumentException {
        Row row = rowOf(version);
        checkSize(size);
        int blocks = row.bytes.length / size;
        int different = 0;
        for (int block = 0; block < blocks; block++) {
            if (firstBlock(row, row, block * size, size) == block) {
                different++;
            }
        }
        return different;
    }

    // ---- patches

    public int difference(int base, int goal, int size)
            throws IndexOutOfBoundsException, IllegalArgumentException, IllegalStateException {
        Row baseRow = rowOf(base);
        Row goalRow = rowOf(goal);
        checkSize(size);
        checkRoomForPatch();
        int[] origins = originsByBlocks(baseRow, goalRow, size);
        made.add(new Patch(firstLike(base), firstLike(goal), goalRow, origins));
        return made.size() - 1;
    }

    public int compose(int p, int q)
            throws IndexOutOfBoundsException, IllegalArgumentException, IllegalStateException {
        Patch before = patchOf(p);
        Patch behind = patchOf(q);
        if (before.goal != behind.base) {
            throw new IllegalArgumentException("the patches cannot be composed");
        }
        checkRoomForPatch();
        int[] origins = originsThrough(before.origins, behind.origins);
        made.add(new Patch(before.base, behind.goal, behind.goalRow, origins));
        return made.size() - 1;
    }

    public int patches() {
        return made.size();
    }

    public int instructions(int patch) throws IndexOutOfBoundsException {
        return patchOf(patch).starts.length;
    }

    public int instruction(int patch, int instruction, int what) throws IndexOutOfBoundsException {
        Patch asked = patchOf(patch);
        if (instruction < 0 || instruction >= asked.starts.length) {
            throw new IndexOutOfBoundsException("no such instruction");
        }
        if (what < KIND || what > SUM_OF_LITERAL) {
            throw new IndexOutOfBoundsException("what is not 0 to 3");
        }
        return asked.tell(instruction, what);
    }

    public int cost(int patch) throws IndexOutOfBoundsException {
        return patchOf(patch).price;
    }

    public double newness(int patch) throws IndexOutOfBoundsException {
        Patch asked = patchOf(patch);
        int bytes = asked.origins.length;
        return bytes == 0 ? 0.0 : (double) asked.literalBytes / bytes;
    }

    public int apply(int patch, int version)
            throws IndexOutOfBoundsException, IllegalArgumentException, IllegalStateException {
        Patch applied = patchOf(patch);
        Row row = rowOf(version);
        if (!row.hasBytesOf(rowOf(applied.base))) {
            throw new IllegalArgumentException("the version does not have the bytes of the base");
        }
        checkRoomForVersion();
        stored.add(applied.goalRow);
        return stored.size() - 1;
    }

    public int steps(int from, int to) throws IndexOutOfBoundsException {
        return leastWay(from, to, false);
    }

    public int leastCost(int from, int to) throws IndexOutOfBoundsException {
        return leastWay(from, to, true);
    }

    // ---- the installation

    public int installVersion(int version) throws IndexOutOfBoundsException {
        return install(rowOf(version));
    }

    public int installPatch(int patch) throws IndexOutOfBoundsException, IllegalArgumentException {
        Patch applied = patchOf(patch);
        if (!installed.hasBytesOf(rowOf(applied.base))) {
            throw new IllegalArgumentException("the base of the patch is not installed");
        }
        return install(applied.goalRow);
    }

    public int rollBack() throws IllegalStateException {
        int latest = history.size() - 1;
        if (latest < 0) {
            throw new IllegalStateException("the history is empty");
        }
        installed = history.get(latest);
        history.remove(latest);
        return latest;
    }

    public boolean isInstalled(int version) throws IndexOutOfBoundsException {
        return rowOf(version).hasBytesOf(installed);
    }

    public int installedLength() {
        return installed.bytes.length;
    }

    public long digest() {
        long d = digestOfBytes(DIGEST_START, buffer, buffered);
        d = d * DIGEST_FACTOR + stored.size();
        for (int version = 0; version < stored.size(); version++) {
            Row row = stored.get(version);
            d = digestOfBytes(d, row.bytes, row.bytes.length);
        }
        d = d * DIGEST_FACTOR + made.size();
        for (int patch = 0; patch < made.size(); patch++) {
            d = digestOfPatch(d, made.get(patch));
        }
        d = digestOfBytes(d, installed.bytes, installed.bytes.length);
        return d * DIGEST_FACTOR + history.size();
    }

    // ---- what several calls need

    private Row rowOf(int version) {
        if (version < 0 || version >= stored.size()) {
            throw new IndexOutOfBoundsException("no such version");
        }
        return stored.get(version);
    }

    private Patch patchOf(int patch) {
        if (patch < 0 || patch >= made.size()) {
            throw new IndexOutOfBoundsException("no such patch");
        }
        return made.get(patch);
    }

    private static void checkSize(int size) {
        if (size < LEAST_SIZE || size > MOST_SIZE) {
            throw new IllegalArgumentException("size is not 2 to 32");
        }
    }

    private void checkRoomForVersion() {
        if (stored.size() >= MOST_VERSIONS) {
            throw new IllegalStateException("there are 12 versions");
        }
    }

    private void checkRoomForPatch() {
        if (made.size() >= MOST_PATCHES) {
            throw new IllegalStateException("there are 12 patches");
        }
    }

    /** The first version with the same bytes: one number for all versions that are the same. */
    private int firstLike(int version) {
        Row row = rowOf(version);
        for (int earlier = 0; earlier < version; earlier++) {
            if (rowOf(earlier).hasBytesOf(row)) {
                return earlier;
            }
        }
        return version;
    }

    /** The first block of the base with the bytes of the other row from the place on, or NONE. */
    private static int firstBlock(Row base, Row other, int place, int size) {
        int blocks = base.bytes.length / size;
        for (int block = 0; block < blocks; block++) {
            if (base.hasStretch(block * size, other, place, size)) {
                return block;
            }
        }
        return NONE;
    }

    /** The block that the difference copies at a place of the goal, or NONE. */
    private static int blockToCopy(Row base, Row goal, int place, int size, int foundLast) {
        if (place > goal.bytes.length - size) {
            return NONE;
        }
        int next = foundLast + 1;
        if (foundLast != NONE && next < base.bytes.length / size
                && base.hasStretch(next * size, goal, place, size)) {
            return next;
        }
        return firstBlock(base, goal, place, size);
    }

    /** For each byte of the goal where the difference copies it from, or NONE if it is literal. */
    private static int[] originsByBlocks(Row base, Row goal, int size) {
        int[] origins = new int[goal.bytes.length];
        int foundLast = NONE;
        int leftOfBlock = 0;
        for (int place = 0; place < origins.length; place++) {
            if (leftOfBlock == 0) {
                int block = blockToCopy(base, goal, place, size, foundLast);
                if (block != NONE) {
                    foundLast = block;
                    leftOfBlock = size;
                }
            }
            if (leftOfBlock == 0) {
                origins[place] = NONE;
            } else {
                origins[place] = (foundLast + 1) * size - leftOfBlock;
                leftOfBlock--;
            }
        }
        return origins;
    }

    /** The origins of the patch behind, followed through those of the patch before it. */
    private static int[] originsThrough(int[] before, int[] behind) {
        int[] origins = new int[behind.length];
        for (int place = 0; place < origins.length; place++) {
            int between = behind[place];
            origins[place] = between >= 0 && between < before.length ? before[between] : NONE;
        }
        return origins;
    }

    /** The least number of patches that lead there, or their least sum of costs; NONE if none do. */
    private int leastWay(int from, int to, boolean byCost) {
        int start = firstLike(from);
        int end = firstLike(to);
        Arrays.fill(reached, NONE);
        reached[start] = 0;
        // A least way needs no patch twice, so that as many rounds as patches find it.
        for (int round = 0; round < made.size(); round++) {
            for (int patch = 0; patch < made.size(); patch++) {
                Patch tried = made.get(patch);
                reachBy(tried, byCost ? tried.price : 1);
            }
        }
        return reached[end];
    }

    private void reachBy(Patch patch, int weight) {
        int before = reached[patch.base];
        if (before == NONE) {
            return;
        }
        int known = reached[patch.goal];
        if (known == NONE || before + weight < known) {
            reached[patch.goal] = before + weight;
        }
    }

    private int install(Row row) {
        if (history.size() >= MOST_HISTORY) {
            history.remove(0);
        }
        history.add(installed);
        installed = row;
        return history.size();
    }

    private static long digestOfBytes(long start, int[] bytes, int n) {
        long d = start * DIGEST_FACTOR + n;
        for (int i = 0; i < n; i++) {
            d = d * DIGEST_FACTOR + bytes[i];
        }
        return d;
    }

    private static long digestOfPatch(long start, Patch patch) {
        long d = start * DIGEST_FACTOR + patch.starts.length;
        for (int instruction = 0; instruction < patch.starts.length; instruction++) {
            for (int what = KIND; what <= SUM_OF_LITERAL; what++) {
                d = d * DIGEST_FACTOR + patch.tell(instruction, what);
            }
        }
        return d;
    }

    /** A row of bytes that never changes, so that versions, patches and the history share it. */
    private static final class Row {
        final int[] bytes;

        Row(int[] source, int n) {
            bytes = Arrays.copyOf(source, n);
        }

        boolean hasBytesOf(Row other) {
            return bytes.length == other.bytes.length && hasStretch(0, other, 0, bytes.length);
        }

        boolean hasStretch(int place, Row other, int otherPlace, int n) {
            for (int i = 0; i < n; i++) {
                if (bytes[place + i] != other.bytes[otherPlace + i]) {
                    return false;
                }
            }
            return true;
        }

        int sumOf(int place, int n) {
            int a = 0;
            int b = 0;
            for (int i = 0; i < n; i++) {
                a += bytes[place + i];
                b += (n - i) * bytes[place + i];
            }
            return a % 256 + 256 * (b % 256);
        }
    }

    /**
     * A patch, held as the origin of each byte of its goal: a place of the base, or NONE for a
     * literal byte. An instruction grows by each byte that fits behind it, so that the origins alone
     * tell where instructions start.
     */
    private static final class Patch {
        /** The first versions with the bytes of the base and of the goal. */
        final int base;
        final int goal;
        final Row goalRow;
        final int[] origins;
        final int[] starts;
        final int literalBytes;
        final int price;

        Patch(int base, int goal, Row goalRow, int[] origins) {
            this.base = base;
            this.goal = goal;
            this.goalRow = goalRow;
            this.origins = origins;
            starts = startsIn(origins);
            literalBytes = literalsIn(origins);
            price = priceOf(origins);
        }

        private static boolean startsAt(int[] origins, int place) {
            if (place == 0) {
                return true;
            }
            int before = origins[place - 1];
            return origins[place] != (before == NONE ? NONE : before + 1);
        }

        private static int[] startsIn(int[] origins) {
            int[] found = new int[origins.length];
            int count = 0;
            for (int place = 0; place < origins.length; place++) {
                if (startsAt(origins, place)) {
                    found[count] = place;
                    count++;
                }
            }
            return Arrays.copyOf(found, count);
        }

        private static int literalsIn(int[] origins) {
            int count = 0;
            for (int place = 0; place < origins.length; place++) {
                if (origins[place] == NONE) {
                    count++;
                }
            }
            return count;
        }

        private static int priceOf(int[] origins) {
            int sum = literalsIn(origins);
            for (int place = 0; place < origins.length; place++) {
                if (startsAt(origins, place)) {
                    sum += origins[place] == NONE ? COST_OF_LITERAL : COST_OF_COPY;
                }
            }
            return sum;
        }

        int tell(int instruction, int what) {
            int start = starts[instruction];
            int end = instruction + 1 < starts.length ? starts[instruction + 1] : origins.length;
            boolean literal = origins[start] == NONE;
            switch (what) {
                case KIND:
                    return literal ? LITERAL : COPY;
                case FIRST_PLACE:
                    return origins[start];
                case BYTES_MADE:
                    return end - start;
                default:
                    return literal ? goalRow.sumOf(start, end - start) : NONE;
            }
        }
    }
}
