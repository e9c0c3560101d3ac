/** Promises 1 to 10: the new object, the buffer and the versions. */
public final class VersionsTest {
    private static final Checks CHECKS = new Checks();

    public static void main(String[] args) {
        newObject();
        feed();
        feedTooMuch();
        store();
        storeTooMany();
        lengthAndByteAt();
        areSame();
        weakSum();
        weakSumRefuses();
        collisions();
        differentBlocks();
        sizesRefused();
        CHECKS.end();
    }

    /** Promise 1. */
    private static void newObject() {
        DeltaUpdater x = new DeltaUpdater();
        CHECKS.due("new: versions", 0, x::versions);
        CHECKS.due("new: patches", 0, x::patches);
        CHECKS.due("new: installedLength", 0, x::installedLength);
        CHECKS.dueThrow("new: rollBack", Checks.STATE, x, x::rollBack);
        CHECKS.due("new: digest", 233L * 31 * 31 * 31 * 31 * 31, x::digest);
        CHECKS.due("new: store", 0, x::store);
        CHECKS.due("new: length of the empty buffer's version", 0, () -> x.length(0));
    }

    /** Promise 2. */
    private static void feed() {
        DeltaUpdater x = new DeltaUpdater();
        CHECKS.due("feed of the lowest 3", 3, () -> x.feed(0x1122334455L, 3));
        CHECKS.due("feed of 8", 11, () -> x.feed(0xF1E2D3C4B5A69788L, 8));
        CHECKS.due("feed of 1", 12, () -> x.feed(-1, 1));
        x.store();
        int[] want = {0x33, 0x44, 0x55, 0xF1, 0xE2, 0xD3, 0xC4, 0xB5, 0xA6, 0x97, 0x88, 0xFF};
        for (int place = 0; place < want.length; place++) {
            int at = place;
            CHECKS.due("byteAt(0, " + at + ")", want[at], () -> x.byteAt(0, at));
        }
        int[] wrong = {0, 9, -1, Integer.MIN_VALUE, Integer.MAX_VALUE};
        for (int n : wrong) {
            CHECKS.dueThrow("feed n " + n, Checks.ARGUMENT, x, () -> x.feed(1, n));
        }
    }

    private static void feedTooMuch() {
        DeltaUpdater x = new DeltaUpdater();
        for (int i = 0; i < 49; i++) {
            x.feed(i, 8);
        }
        x.feed(0, 5);
        CHECKS.dueThrow("feed to 401", Checks.STATE, x, () -> x.feed(7, 4));
        CHECKS.due("feed to 400", 400, () -> x.feed(7, 3));
        CHECKS.dueThrow("feed behind 400", Checks.STATE, x, () -> x.feed(7, 1));
        CHECKS.dueThrow("feed 9 behind 400", Checks.ARGUMENT, x, () -> x.feed(7, 9));
        CHECKS.due("store of 400", 0, x::store);
        CHECKS.due("length of 400", 400, () -> x.length(0));
        CHECKS.due("last of 400", 7, () -> x.byteAt(0, 399));
        CHECKS.due("feed after store", 8, () -> x.feed(7, 8));
    }

    /** Promises 3 and 4. */
    private static void store() {
        DeltaUpdater x = new DeltaUpdater();
        Checks.feedText(x, "abc");
        CHECKS.due("store 0", 0, x::store);
        CHECKS.due("versions 1", 1, x::versions);
        CHECKS.due("store of the emptied buffer", 1, x::store);
        CHECKS.due("versions 2", 2, x::versions);
        CHECKS.due("feed after store", 1, () -> x.feed('z', 1));
        CHECKS.due("version 0 stays", "abc", () -> Checks.textOf(x, 0));
        CHECKS.due("version 1 is empty", "", () -> Checks.textOf(x, 1));
    }

    private static void storeTooMany() {
        DeltaUpdater x = new DeltaUpdater();
        for (int i = 0; i < 12; i++) {
            int number = i;
            x.feed(i, 1);
            CHECKS.due("store " + i, number, x::store);
        }
        Checks.feedText(x, "kept");
        CHECKS.dueThrow("store the 13th", Checks.STATE, x, x::store);
        CHECKS.due("versions stay 12", 12, x::versions);
        CHECKS.due("the buffer stays", 5, () -> x.feed(0, 1));
    }

    /** Promises 5 and 6. */
    private static void lengthAndByteAt() {
        DeltaUpdater x = Checks.withVersions("", "hello");
        CHECKS.due("length of none", 0, () -> x.length(0));
        CHECKS.due("length", 5, () -> x.length(1));
        CHECKS.due("first byte", (int) 'h', () -> x.byteAt(1, 0));
        CHECKS.due("last byte", (int) 'o', () -> x.byteAt(1, 4));
        int[] noVersion = {-1, 2, Integer.MIN_VALUE, Integer.MAX_VALUE};
        for (int v : noVersion) {
            CHECKS.dueThrow("length " + v, Checks.INDEX, x, () -> x.length(v));
            CHECKS.dueThrow("byteAt " + v, Checks.INDEX, x, () -> x.byteAt(v, 0));
        }
        int[] noPlace = {-1, 5, Integer.MIN_VALUE, Integer.MAX_VALUE};
        for (int place : noPlace) {
            CHECKS.dueThrow("byteAt place " + place, Checks.INDEX, x, () -> x.byteAt(1, place));
        }
        CHECKS.dueThrow("byteAt of none", Checks.INDEX, x, () -> x.byteAt(0, 0));
    }

    /** Promise 7. */
    private static void areSame() {
        DeltaUpdater x = Checks.withVersions("", "ab", "abc", "ab", "ac", "");
        CHECKS.due("itself", true, () -> x.areSame(1, 1));
        CHECKS.due("same bytes", true, () -> x.areSame(1, 3));
        CHECKS.due("both empty", true, () -> x.areSame(5, 0));
        CHECKS.due("longer", false, () -> x.areSame(1, 2));
        CHECKS.due("shorter", false, () -> x.areSame(2, 1));
        CHECKS.due("other byte", false, () -> x.areSame(1, 4));
        CHECKS.due("empty and not", false, () -> x.areSame(0, 1));
        CHECKS.dueThrow("areSame(0, 6)", Checks.INDEX, x, () -> x.areSame(0, 6));
        CHECKS.dueThrow("areSame(6, 0)", Checks.INDEX, x, () -> x.areSame(6, 0));
        CHECKS.dueThrow("areSame(-1, 0)", Checks.INDEX, x, () -> x.areSame(-1, 0));
    }

    /** Promise 8. */
    private static void weakSum() {
        DeltaUpdater x = new DeltaUpdater();
        x.feed(0x01020304L, 4);
        x.feed(-1, 8);
        x.store();
        CHECKS.due("one byte", 1 + 256, () -> x.weakSum(0, 0, 1));
        CHECKS.due("four", 10 + 256 * (4 + 6 + 6 + 4), () -> x.weakSum(0, 0, 4));
        CHECKS.due("from a place on", 7 + 256 * (6 + 4), () -> x.weakSum(0, 2, 2));
        CHECKS.due("both sums wrap", 2040 % 256 + 256 * (255 * 36 % 256), () -> x.weakSum(0, 4, 8));
        DeltaUpdater y = Checks.withVersions("x".repeat(40));
        CHECKS.due("32 bytes at the end", 120 * 32 % 256 + 256 * (120 * 528 % 256),
                () -> y.weakSum(0, 8, 32));
    }

    private static void weakSumRefuses() {
        DeltaUpdater x = Checks.withVersions("x".repeat(40), "");
        int[][] wrong = {{0, 0}, {0, 33}, {0, -1}, {-1, 2}, {9, 32}, {40, 1}, {41, 1},
            {Integer.MAX_VALUE, 1}, {Integer.MIN_VALUE, 1}, {0, Integer.MIN_VALUE},
            {Integer.MAX_VALUE, Integer.MAX_VALUE}, {Integer.MIN_VALUE, Integer.MIN_VALUE}};
        for (int[] w : wrong) {
            CHECKS.dueThrow("weakSum(0, " + w[0] + ", " + w[1] + ")", Checks.ARGUMENT, x,
                    () -> x.weakSum(0, w[0], w[1]));
        }
        CHECKS.dueThrow("weakSum of none", Checks.ARGUMENT, x, () -> x.weakSum(1, 0, 1));
        CHECKS.dueThrow("weakSum no version", Checks.INDEX, x, () -> x.weakSum(2, 0, 1));
        CHECKS.dueThrow("weakSum no version first", Checks.INDEX, x, () -> x.weakSum(-1, -1, 0));
        CHECKS.due("weakSum up to the last", 120 + 256 * 120, () -> x.weakSum(0, 39, 1));
    }

    /** Promise 9. The rows 1 0 1, 0 2 0 - behind each other - have the weak sum 2 + 256 * 4. */
    private static void collisions() {
        DeltaUpdater x = new DeltaUpdater();
        x.feed(0x010001_000200L, 6);
        x.store();
        x.feed(0x010001_000200L, 6);
        x.feed(0x010001_000200L, 6);
        x.feed(0x000000_0100L, 5);
        x.store();
        CHECKS.due("one pair", 1, () -> x.collisions(0, 3));
        CHECKS.due("each pair counts", 4, () -> x.collisions(1, 3));
        CHECKS.due("of another size", 0, () -> x.collisions(0, 2));
        CHECKS.due("size beyond the length", 0, () -> x.collisions(0, 32));
        DeltaUpdater y = Checks.withVersions("", "abababab", "aaaaaaaaaaaa");
        CHECKS.due("of none", 0, () -> y.collisions(0, 2));
        CHECKS.due("same bytes do not count", 0, () -> y.collisions(1, 2));
        DeltaUpdater z = new DeltaUpdater();
        z.feed(0x010001_0002L, 5);
        z.store();
        CHECKS.due("the end is in no block", 0, () -> z.collisions(0, 3));
    }

    /** Promise 10. */
    private static void differentBlocks() {
        DeltaUpdater x = Checks.withVersions("", "abcabcabxab", "a".repeat(400));
        CHECKS.due("of none", 0, () -> x.differentBlocks(0, 2));
        CHECKS.due("the end is in no block", 2, () -> x.differentBlocks(1, 3));
        CHECKS.due("size 2", 4, () -> x.differentBlocks(1, 2));
        CHECKS.due("size 11", 1, () -> x.differentBlocks(1, 11));
        CHECKS.due("size 12", 0, () -> x.differentBlocks(1, 12));
        CHECKS.due("all the same", 1, () -> x.differentBlocks(2, 2));
        DeltaUpdater y = new DeltaUpdater();
        y.feed(0x010001_000200L, 6);
        y.store();
        CHECKS.due("the same sums, but not bytes", 2, () -> y.differentBlocks(0, 3));
    }

    private static void sizesRefused() {
        DeltaUpdater x = Checks.withVersions("abcdef");
        int[] wrong = {1, 33, 0, -2, Integer.MIN_VALUE, Integer.MAX_VALUE};
        for (int size : wrong) {
            CHECKS.dueThrow("collisions size " + size, Checks.ARGUMENT, x,
                    () -> x.collisions(0, size));
            CHECKS.dueThrow("differentBlocks size " + size, Checks.ARGUMENT, x,
                    () -> x.differentBlocks(0, size));
        }
        CHECKS.dueThrow("collisions version", Checks.INDEX, x, () -> x.collisions(1, 2));
        CHECKS.dueThrow("collisions version first", Checks.INDEX, x, () -> x.collisions(-1, 99));
        CHECKS.dueThrow("differentBlocks version", Checks.INDEX, x, () -> x.differentBlocks(1, 2));
        CHECKS.dueThrow("differentBlocks version first", Checks.INDEX, x,
                () -> x.differentBlocks(-1, 99));
    }
}
