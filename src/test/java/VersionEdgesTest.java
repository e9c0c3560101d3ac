/**
 * The edges of the buffer and the versions: a test for each sentence of the document that names
 * one, in the document's order. RefusalsTest holds what is refused, and in which order.
 */
public final class VersionEdgesTest {
    private static final Checks CHECKS = new Checks();

    public static void main(String[] args) {
        usedFor512Calls();
        atMostTwelveVersions();
        atMost400Bytes();
        bytesAre0To255();
        countedFrom0();
        mayBeEmpty();
        neverChanges();
        sameIfTheyHaveTheSameBytes();
        blockSizes2To32();
        leftAtTheEndIsInNoBlock();
        leftAtTheEndDoesNotCollide();
        sumsAreModulo256();
        newObject();
        feedTakesTheLowestBytes();
        feedTakes1To8();
        feedUpTo400();
        storeEmptiesTheBuffer();
        storeRefusesTheThirteenth();
        noSuchVersion();
        noSuchPlace();
        weakSumOf1To32();
        weakSumWithinTheVersion();
        pairsOfBlocks();
        differentBlocksByTheirBytes();
        CHECKS.end();
    }

    private static DeltaUpdater withBytes(int... bytes) {
        return Checks.withVersions(Checks.bytes(bytes));
    }

    /** So many bytes, no two of them the same for up to 256. */
    private static String counting(int n) {
        int[] bytes = new int[n];
        for (int i = 0; i < n; i++) {
            bytes[i] = i % 256;
        }
        return Checks.bytes(bytes);
    }

    /** "An object is used for at most 512 calls after it has been made." */
    private static void usedFor512Calls() {
        DeltaUpdater x = new DeltaUpdater();
        x.store();
        x.difference(0, 0, 2);
        for (int call = 3; call <= 510; call++) {
            x.installPatch(0);
        }
        CHECKS.due("call 511", 19, x::rollBack);
        CHECKS.due("call 512", 20, () -> x.installVersion(0));
    }

    /** "There are at most 12, numbered from 0 in the order of their creation." */
    private static void atMostTwelveVersions() {
        DeltaUpdater x = new DeltaUpdater();
        CHECKS.due("store 0", 0, x::store);
        x.difference(0, 0, 2);
        for (int i = 1; i < 11; i += 2) {
            int number = i;
            CHECKS.due("apply " + i, number, () -> x.apply(0, 0));
            CHECKS.due("store " + (i + 1), number + 1, x::store);
        }
        CHECKS.due("apply 11", 11, () -> x.apply(0, 0));
        CHECKS.due("versions, of both kinds", 12, x::versions);
        CHECKS.dueThrow("store 12", Checks.STATE, x, x::store);
        CHECKS.dueThrow("apply 12", Checks.STATE, x, () -> x.apply(0, 0));
    }

    /** "A version is a row of at most 400 bytes." */
    private static void atMost400Bytes() {
        String most = counting(400);
        DeltaUpdater x = Checks.withVersions(most);
        CHECKS.due("length of the longest", 400, () -> x.length(0));
        CHECKS.due("its bytes", most, () -> Checks.textOf(x, 0));
        DeltaUpdater y = Checks.withVersions(most);
        CHECKS.dueThrow("behind its last byte", Checks.INDEX, y, () -> y.byteAt(0, 400));
        CHECKS.due("blocks of the least size", 128, () -> y.differentBlocks(0, 2));
        CHECKS.due("blocks of the greatest size", 8, () -> y.differentBlocks(0, 32));
        CHECKS.due("block size with nothing left", 16, () -> y.differentBlocks(0, 25));
        CHECKS.due("sum at its end", 285 % 256 + 256 * (427 % 256), () -> y.weakSum(0, 398, 2));
        CHECKS.dueThrow("sum over its end", Checks.ARGUMENT, y, () -> y.weakSum(0, 399, 2));
    }

    /** "... bytes, 0 to 255." */
    private static void bytesAre0To255() {
        DeltaUpdater x = new DeltaUpdater();
        x.feed(0x007F80FFL, 4);
        x.feed(-1, 1);
        x.feed(-256, 1);
        x.feed(Long.MIN_VALUE, 8);
        x.store();
        int[] want = {0, 127, 128, 255, 255, 0, 128, 0};
        for (int i = 0; i < want.length; i++) {
            int place = i;
            CHECKS.due("byte " + place, want[place], () -> x.byteAt(0, place));
        }
    }

    /** "... counted from 0." */
    private static void countedFrom0() {
        DeltaUpdater x = Checks.withVersions("abc");
        CHECKS.due("the first", (int) 'a', () -> x.byteAt(0, 0));
        CHECKS.due("the last", (int) 'c', () -> x.byteAt(0, 2));
        CHECKS.dueThrow("place 3", Checks.INDEX, x, () -> x.byteAt(0, 3));
        CHECKS.due("sum of the first", 97 + 256 * 97, () -> x.weakSum(0, 0, 1));
        CHECKS.due("sum of the last", 99 + 256 * 99, () -> x.weakSum(0, 2, 1));
    }

    /** "It may be empty." */
    private static void mayBeEmpty() {
        DeltaUpdater x = new DeltaUpdater();
        CHECKS.due("store nothing", 0, x::store);
        CHECKS.due("it counts", 1, x::versions);
        CHECKS.due("its length", 0, () -> x.length(0));
        CHECKS.dueThrow("its first byte", Checks.INDEX, x, () -> x.byteAt(0, 0));
        CHECKS.due("the same as itself", true, () -> x.areSame(0, 0));
        CHECKS.dueThrow("a sum of it", Checks.ARGUMENT, x, () -> x.weakSum(0, 0, 1));
        CHECKS.due("no collisions", 0, () -> x.collisions(0, 2));
        CHECKS.due("no blocks", 0, () -> x.differentBlocks(0, 2));
        CHECKS.due("nothing again", 1, x::store);
        CHECKS.due("the same", true, () -> x.areSame(0, 1));
    }

    /** "A version never changes." */
    private static void neverChanges() {
        DeltaUpdater x = Checks.withVersions("abcd", "");
        Checks.feedText(x, "zzzz");
        CHECKS.due("behind a feed", "abcd", () -> Checks.textOf(x, 0));
        x.store();
        x.difference(0, 2, 2);
        x.difference(0, 1, 2);
        x.apply(0, 0);
        x.installVersion(0);
        x.installPatch(1);
        CHECKS.due("behind an installation", "abcd", () -> Checks.textOf(x, 0));
        x.installVersion(3);
        x.rollBack();
        x.rollBack();
        Checks.feedText(x, "yyyyyy");
        x.store();
        CHECKS.due("0 at the end", "abcd", () -> Checks.textOf(x, 0));
        CHECKS.due("1 at the end", "", () -> Checks.textOf(x, 1));
        CHECKS.due("2 at the end", "zzzz", () -> Checks.textOf(x, 2));
        CHECKS.due("3 at the end", "zzzz", () -> Checks.textOf(x, 3));
        CHECKS.due("4 at the end", "yyyyyy", () -> Checks.textOf(x, 4));
    }

    /** "Two versions are the same if they have the same bytes." */
    private static void sameIfTheyHaveTheSameBytes() {
        String zero = Checks.bytes(0);
        DeltaUpdater x = Checks.withVersions("", "", zero, zero + zero, "ab", "aB", "ba", "ab",
                "b");
        boolean[][] want = new boolean[9][9];
        for (int i = 0; i < 9; i++) {
            want[i][i] = true;
        }
        want[0][1] = want[1][0] = want[4][7] = want[7][4] = true;
        for (int i = 0; i < 9; i++) {
            for (int j = 0; j < 9; j++) {
                int a = i;
                int b = j;
                CHECKS.due("areSame " + a + " " + b, want[a][b], () -> x.areSame(a, b));
            }
        }
    }

    /** "Blocks of a size, 2 to 32." */
    private static void blockSizes2To32() {
        DeltaUpdater x = Checks.withVersions(counting(64));
        CHECKS.due("blocks of 2", 32, () -> x.differentBlocks(0, 2));
        CHECKS.due("blocks of 32", 2, () -> x.differentBlocks(0, 32));
        CHECKS.due("collisions of 2", 0, () -> x.collisions(0, 2));
        // 32 more in each of 32 bytes is nothing in sums modulo 256
        CHECKS.due("collisions of 32", 1, () -> x.collisions(0, 32));
        CHECKS.due("difference by 2", 0, () -> x.difference(0, 0, 2));
        CHECKS.due("difference by 32", 1, () -> x.difference(0, 0, 32));
        int[] wrong = {1, 33};
        for (int size : wrong) {
            CHECKS.dueThrow("blocks of " + size, Checks.ARGUMENT, x,
                    () -> x.differentBlocks(0, size));
            CHECKS.dueThrow("collisions of " + size, Checks.ARGUMENT, x,
                    () -> x.collisions(0, size));
            CHECKS.dueThrow("difference by " + size, Checks.ARGUMENT, x,
                    () -> x.difference(0, 0, size));
        }
    }

    /** "What is left at its end, if it is less than the size, is in no block." */
    private static void leftAtTheEndIsInNoBlock() {
        int[] sizes = {2, 3, 31, 32};
        for (int size : sizes) {
            for (int length = size - 1; length <= 3 * size; length++) {
                DeltaUpdater x = Checks.withVersions(counting(length));
                int blocks = length < size ? 0 : length < 2 * size ? 1 : length < 3 * size ? 2 : 3;
                CHECKS.due("blocks of " + size + " in " + length, blocks,
                        () -> x.differentBlocks(0, size));
            }
        }
    }

    /** The same sentence, for collisions: 1 0 1 and 0 2 0 have the same weak sum. */
    private static void leftAtTheEndDoesNotCollide() {
        DeltaUpdater left = withBytes(1, 0, 1, 0, 2);
        CHECKS.due("two bytes left", 0, () -> left.collisions(0, 3));
        DeltaUpdater whole = withBytes(1, 0, 1, 0, 2, 0);
        CHECKS.due("nothing left", 1, () -> whole.collisions(0, 3));
        DeltaUpdater more = withBytes(1, 0, 1, 0, 2, 0, 1, 0);
        CHECKS.due("two more left", 1, () -> more.collisions(0, 3));
    }

    /** "... both modulo 256." */
    private static void sumsAreModulo256() {
        int[][] rows = {{255}, {1, 254}, {2, 254}, {255, 255}, {128, 0}, {127, 1}, {0, 255},
            {1, 255}, {255, 1}, {0, 0}, {64, 64, 64, 64}, {0}};
        int[] sums = {255, 255, 0, 254, 128, 128, 255, 0, 0, 0, 0, 0};
        int[] weighted = {255, 0, 2, 253, 0, 255, 255, 1, 255, 0, 128, 0};
        for (int i = 0; i < rows.length; i++) {
            int row = i;
            DeltaUpdater x = withBytes(rows[row]);
            CHECKS.due("weak sum of row " + row, sums[row] + 256 * weighted[row],
                    () -> x.weakSum(0, 0, rows[row].length));
        }
        DeltaUpdater most = Checks.withVersions(Checks.bytes(255).repeat(32));
        CHECKS.due("the greatest 32", 255 * 32 % 256 + 256 * (255 * 528 % 256),
                () -> most.weakSum(0, 0, 32));
    }

    /** Promise 1: "without versions and patches, with an empty buffer; ... no history." */
    private static void newObject() {
        DeltaUpdater x = new DeltaUpdater();
        CHECKS.due("no versions", 0, x::versions);
        CHECKS.dueThrow("not one version", Checks.INDEX, x, () -> x.length(0));
        CHECKS.due("no patches", 0, x::patches);
        CHECKS.dueThrow("not one patch", Checks.INDEX, x, () -> x.instructions(0));
        CHECKS.due("no bytes installed", 0, x::installedLength);
        CHECKS.dueThrow("no history", Checks.STATE, x, x::rollBack);
        CHECKS.due("an empty buffer", 1, () -> x.feed(0, 1));
    }

    /** Promise 2: "the lowest n bytes of this number count, the highest one of these first." */
    private static void feedTakesTheLowestBytes() {
        String all = Checks.bytes(0x81, 2, 3, 4, 5, 6, 7, 0x88);
        for (int i = 1; i <= 8; i++) {
            int n = i;
            DeltaUpdater x = new DeltaUpdater();
            CHECKS.due("feed " + n, n, () -> x.feed(0x8102030405060788L, n));
            x.store();
            CHECKS.due("bytes of feed " + n, all.substring(8 - n), () -> Checks.textOf(x, 0));
        }
    }

    /** Promise 2: "if n is not 1 to 8." */
    private static void feedTakes1To8() {
        DeltaUpdater x = new DeltaUpdater();
        CHECKS.dueThrow("feed 0", Checks.ARGUMENT, x, () -> x.feed(1, 0));
        CHECKS.dueThrow("feed 9", Checks.ARGUMENT, x, () -> x.feed(1, 9));
        CHECKS.dueThrow("feed -1", Checks.ARGUMENT, x, () -> x.feed(1, -1));
        CHECKS.due("feed 1", 1, () -> x.feed(1, 1));
        CHECKS.due("feed 8", 9, () -> x.feed(1, 8));
    }

    /** Promise 2: "if the buffer would have more than 400 bytes." */
    private static void feedUpTo400() {
        for (int i = 1; i <= 8; i++) {
            int n = i;
            DeltaUpdater x = new DeltaUpdater();
            Checks.feedText(x, "x".repeat(401 - n));
            CHECKS.dueThrow(n + " to 401", Checks.STATE, x, () -> x.feed(1, n));
            if (n > 1) {
                CHECKS.due(n - 1 + " to 400", 400, () -> x.feed(1, n - 1));
            }
            CHECKS.dueThrow("1 behind 400", Checks.STATE, x, () -> x.feed(1, 1));
            CHECKS.dueThrow(n + " behind 400", Checks.STATE, x, () -> x.feed(1, n));
        }
    }

    /** Promise 3: "it is empty then." */
    private static void storeEmptiesTheBuffer() {
        DeltaUpdater x = Checks.withVersions("x".repeat(400));
        CHECKS.due("feed behind store", 8, () -> x.feed(0, 8));
        Checks.feedText(x, "y".repeat(392));
        CHECKS.due("a full buffer again", 1, x::store);
        CHECKS.due("store at once", 2, x::store);
        CHECKS.due("all bytes are gone", 0, () -> x.length(2));
    }

    /** Promise 3: "if there are 12 versions." */
    private static void storeRefusesTheThirteenth() {
        DeltaUpdater x = new DeltaUpdater();
        for (int i = 0; i < 12; i++) {
            int number = i;
            CHECKS.due("store " + number, number, x::store);
            CHECKS.due("versions behind " + number, number + 1, x::versions);
        }
        CHECKS.dueThrow("store 12 of nothing", Checks.STATE, x, x::store);
        Checks.feedText(x, "kept");
        CHECKS.dueThrow("store 12", Checks.STATE, x, x::store);
        CHECKS.due("versions", 12, x::versions);
        CHECKS.due("the buffer is kept", 5, () -> x.feed(0, 1));
    }

    /** Promises 5 to 10: "if there is no such version." */
    private static void noSuchVersion() {
        DeltaUpdater x = Checks.withVersions("abcd", "abcd");
        int[] wrong = {-1, 2, 12, Integer.MIN_VALUE, Integer.MAX_VALUE};
        for (int v : wrong) {
            CHECKS.dueThrow("length " + v, Checks.INDEX, x, () -> x.length(v));
            CHECKS.dueThrow("byteAt " + v, Checks.INDEX, x, () -> x.byteAt(v, 0));
            CHECKS.dueThrow("areSame 0 " + v, Checks.INDEX, x, () -> x.areSame(0, v));
            CHECKS.dueThrow("areSame 0 behind " + v, Checks.INDEX, x, () -> x.areSame(v, 0));
            CHECKS.dueThrow("areSame twice " + v, Checks.INDEX, x, () -> x.areSame(v, v));
            CHECKS.dueThrow("weakSum " + v, Checks.INDEX, x, () -> x.weakSum(v, 0, 1));
            CHECKS.dueThrow("collisions " + v, Checks.INDEX, x, () -> x.collisions(v, 2));
            CHECKS.dueThrow("differentBlocks " + v, Checks.INDEX, x,
                    () -> x.differentBlocks(v, 2));
        }
        CHECKS.due("the last one", 4, () -> x.length(1));
    }

    /** Promise 6: "if there is no such version or place." */
    private static void noSuchPlace() {
        DeltaUpdater x = Checks.withVersions("abc", "", "abcdef");
        int[] wrong = {-1, 3, 400, Integer.MIN_VALUE, Integer.MAX_VALUE};
        for (int place : wrong) {
            CHECKS.dueThrow("place " + place, Checks.INDEX, x, () -> x.byteAt(0, place));
            CHECKS.dueThrow("of none " + place, Checks.INDEX, x, () -> x.byteAt(1, place));
        }
        CHECKS.dueThrow("of none", Checks.INDEX, x, () -> x.byteAt(1, 0));
        CHECKS.due("a longer one has it", (int) 'd', () -> x.byteAt(2, 3));
    }

    /** Promise 8: "if n is not 1 to 32." */
    private static void weakSumOf1To32() {
        DeltaUpdater x = Checks.withVersions(Checks.bytes(1).repeat(40));
        CHECKS.dueThrow("n 0", Checks.ARGUMENT, x, () -> x.weakSum(0, 0, 0));
        CHECKS.dueThrow("n 33", Checks.ARGUMENT, x, () -> x.weakSum(0, 0, 33));
        CHECKS.dueThrow("n -1", Checks.ARGUMENT, x, () -> x.weakSum(0, 0, -1));
        CHECKS.dueThrow("n 0 at the end", Checks.ARGUMENT, x, () -> x.weakSum(0, 40, 0));
        CHECKS.due("n 1", 1 + 256, () -> x.weakSum(0, 0, 1));
        CHECKS.due("n 32", 32 + 256 * (528 % 256), () -> x.weakSum(0, 0, 32));
    }

    /** Promise 8: "place is negative, or the version has less than n bytes from the place on." */
    private static void weakSumWithinTheVersion() {
        int[] lengths = {1, 2, 32, 33, 400};
        for (int length : lengths) {
            DeltaUpdater x = Checks.withVersions(Checks.bytes(1).repeat(length));
            for (int i = 1; i <= Math.min(length, 32); i += 31) {
                int n = i;
                String name = "n " + n + " of " + length;
                int sum = n + 256 * (n * (n + 1) / 2 % 256);
                CHECKS.due(name, sum, () -> x.weakSum(0, 0, n));
                CHECKS.due(name + ", at the end", sum, () -> x.weakSum(0, length - n, n));
                CHECKS.dueThrow(name + ", behind it", Checks.ARGUMENT, x,
                        () -> x.weakSum(0, length - n + 1, n));
                CHECKS.dueThrow(name + ", no byte", Checks.ARGUMENT, x,
                        () -> x.weakSum(0, length, n));
                CHECKS.dueThrow(name + ", -1", Checks.ARGUMENT, x, () -> x.weakSum(0, -1, n));
                CHECKS.dueThrow(name + ", least", Checks.ARGUMENT, x,
                        () -> x.weakSum(0, Integer.MIN_VALUE, n));
                CHECKS.dueThrow(name + ", greatest", Checks.ARGUMENT, x,
                        () -> x.weakSum(0, Integer.MAX_VALUE, n));
            }
            CHECKS.dueThrow("longer than " + length, Checks.ARGUMENT, x,
                    () -> x.weakSum(0, 0, Math.min(length, 32) + 1));
        }
    }

    /** Promise 9: "pairs of its blocks ... that have the same weak sum, but not the same bytes." */
    private static void pairsOfBlocks() {
        DeltaUpdater one = withBytes(1, 0, 1);
        CHECKS.due("one block", 0, () -> one.collisions(0, 3));
        DeltaUpdater same = withBytes(1, 0, 1, 1, 0, 1);
        CHECKS.due("the same bytes", 0, () -> same.collisions(0, 3));
        DeltaUpdater pair = withBytes(0, 2, 0, 9, 9, 9, 1, 0, 1);
        CHECKS.due("a pair counts once", 1, () -> pair.collisions(0, 3));
        DeltaUpdater three = withBytes(1, 0, 1, 0, 2, 0, 1, 0, 1);
        CHECKS.due("each pair counts", 2, () -> three.collisions(0, 3));
        DeltaUpdater half = withBytes(3, 0, 2, 1, 0, 2, 1, 0);
        CHECKS.due("only one of the two sums is the same", 0, () -> half.collisions(0, 2));
        DeltaUpdater wraps = withBytes(128, 0, 128, 0, 0, 0);
        CHECKS.due("the same modulo 256", 1, () -> wraps.collisions(0, 3));
        DeltaUpdater most = Checks.withVersions(Checks.bytes(1, 0, 1, 0, 2, 0).repeat(66));
        CHECKS.due("of the longest", 66 * 66, () -> most.collisions(0, 3));
    }

    /** Promise 10: "how many different blocks of this size it has." */
    private static void differentBlocksByTheirBytes() {
        DeltaUpdater one = withBytes(5, 5);
        CHECKS.due("one block", 1, () -> one.differentBlocks(0, 2));
        DeltaUpdater collide = withBytes(1, 0, 1, 0, 2, 0, 1, 0, 1, 0, 2, 0);
        CHECKS.due("the same weak sums", 2, () -> collide.differentBlocks(0, 3));
        DeltaUpdater last = withBytes(1, 1, 1, 1, 1, 2);
        CHECKS.due("other in the last byte", 2, () -> last.differentBlocks(0, 2));
        DeltaUpdater first = withBytes(1, 1, 2, 1);
        CHECKS.due("other in the first byte", 2, () -> first.differentBlocks(0, 2));
        DeltaUpdater shifted = withBytes(1, 2, 1, 2, 1, 2, 1);
        CHECKS.due("stretches beside the blocks", 1, () -> shifted.differentBlocks(0, 2));
        DeltaUpdater most = Checks.withVersions("ab".repeat(199) + "ba");
        CHECKS.due("of the longest", 2, () -> most.differentBlocks(0, 2));
    }
}
