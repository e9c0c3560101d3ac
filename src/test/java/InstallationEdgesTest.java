import java.math.BigInteger;

/**
 * The edges of the installation and the digest: a test for each sentence of the document that
 * names one, in the document's order. RefusalsTest holds what is refused, and in which order.
 */
public final class InstallationEdgesTest {
    private static final Checks CHECKS = new Checks();

    public static void main(String[] args) {
        noneAtFirst();
        atMostTwentyInTheHistory();
        theLatestIsLast();
        installWhateverThereIs();
        theEarliestIsGone();
        installPatchOnTheBytesOfTheBase();
        installPatchKeepsTheHistory();
        rollBackToTheFirst();
        rollBackOfAFullHistory();
        rolledBackIsNoMoreInTheHistory();
        installedByItsBytes();
        installedLengths();
        noSuchVersion();
        digestOfANewObject();
        digestOfMinusOne();
        digestWrapsAround();
        digestOfAFullObject();
        digestOfTheHistory();
        CHECKS.end();
    }

    /** "It has some bytes, none at first, and a history of what it had before." */
    private static void noneAtFirst() {
        DeltaUpdater x = Checks.withVersions("", "a");
        CHECKS.due("no bytes", 0, x::installedLength);
        CHECKS.due("those of the empty version", true, () -> x.isInstalled(0));
        CHECKS.due("not those of another", false, () -> x.isInstalled(1));
        CHECKS.dueThrow("no history", Checks.STATE, x, x::rollBack);
        CHECKS.due("none at first is what it had before", 1, () -> x.installVersion(1));
        CHECKS.due("rolled back", 0, x::rollBack);
        CHECKS.due("no bytes again", 0, x::installedLength);
    }

    /** "... at most 20 of these." */
    private static void atMostTwentyInTheHistory() {
        DeltaUpdater x = Checks.withVersions("a");
        for (int i = 1; i <= 20; i++) {
            int count = i;
            CHECKS.due("installation " + count, count, () -> x.installVersion(0));
        }
        for (int i = 21; i <= 45; i++) {
            CHECKS.due("installation " + i, 20, () -> x.installVersion(0));
        }
        for (int i = 19; i >= 0; i--) {
            int count = i;
            CHECKS.due("back to " + count, count, x::rollBack);
        }
        CHECKS.dueThrow("none left", Checks.STATE, x, x::rollBack);
    }

    /** "... the latest last." */
    private static void theLatestIsLast() {
        DeltaUpdater x = Checks.withVersions("a", "bb", "ccc");
        x.installVersion(0);
        x.installVersion(1);
        x.installVersion(2);
        CHECKS.due("back from 2", 2, x::rollBack);
        CHECKS.due("to 1", 2, x::installedLength);
        CHECKS.due("back from 1", 1, x::rollBack);
        CHECKS.due("to 0", 1, x::installedLength);
        CHECKS.due("back from 0", 0, x::rollBack);
        CHECKS.due("to nothing", 0, x::installedLength);
    }

    /** Promise 21: "Installs a version, whatever there is." */
    private static void installWhateverThereIs() {
        DeltaUpdater x = Checks.withVersions("a", "a", "");
        CHECKS.due("nothing on nothing", 1, () -> x.installVersion(2));
        CHECKS.due("something on nothing", 2, () -> x.installVersion(0));
        CHECKS.due("the same version", 3, () -> x.installVersion(0));
        CHECKS.due("the same bytes", 4, () -> x.installVersion(1));
        CHECKS.due("nothing on something", 5, () -> x.installVersion(2));
        CHECKS.due("nothing", 0, x::installedLength);
        CHECKS.due("back", 4, x::rollBack);
        CHECKS.due("something", 1, x::installedLength);
    }

    /** Promise 21: "if this has 20 already, the earliest of these is gone." */
    private static void theEarliestIsGone() {
        DeltaUpdater x = Checks.withVersions("a", "bb", "ccc");
        x.installVersion(1);
        x.installVersion(2);
        for (int i = 2; i < 20; i++) {
            x.installVersion(0);
        }
        // nothing, bb, ccc and 17 times a are in the history: it has 20 and none is gone yet
        CHECKS.due("one more", 20, () -> x.installVersion(0));
        for (int i = 19; i >= 2; i--) {
            x.rollBack();
        }
        CHECKS.due("two left", 1, x::rollBack);
        CHECKS.due("ccc", true, () -> x.isInstalled(2));
        CHECKS.due("one left", 0, x::rollBack);
        CHECKS.due("bb, as nothing is gone", true, () -> x.isInstalled(1));
        CHECKS.dueThrow("none left", Checks.STATE, x, x::rollBack);
    }

    /** Promise 22: "if the installation does not have the bytes of the base." */
    private static void installPatchOnTheBytesOfTheBase() {
        DeltaUpdater x = Checks.withVersions("", "ab", "abc", "a", "ab", "ba");
        x.difference(0, 1, 2);
        x.difference(1, 2, 2);
        CHECKS.dueThrow("nothing there", Checks.ARGUMENT, x, () -> x.installPatch(1));
        CHECKS.due("an empty base on nothing", 1, () -> x.installPatch(0));
        CHECKS.dueThrow("an empty base on something", Checks.ARGUMENT, x, () -> x.installPatch(0));
        int[] others = {0, 2, 3, 5};
        for (int v : others) {
            x.installVersion(v);
            CHECKS.dueThrow("on version " + v, Checks.ARGUMENT, x, () -> x.installPatch(1));
        }
        x.installVersion(4);
        CHECKS.due("on the same bytes", 7, () -> x.installPatch(1));
        CHECKS.due("the goal", true, () -> x.isInstalled(2));
        x.rollBack();
        CHECKS.due("on what was rolled back", 7, () -> x.installPatch(1));
    }

    /** Promise 22: "The history is kept as by installVersion()." */
    private static void installPatchKeepsTheHistory() {
        DeltaUpdater x = Checks.withVersions("ab", "abc");
        x.installVersion(1);
        x.installVersion(0);
        x.difference(0, 0, 2);
        x.difference(0, 1, 2);
        for (int i = 3; i <= 20; i++) {
            int count = i;
            CHECKS.due("patch " + count, count, () -> x.installPatch(0));
        }
        CHECKS.due("the history is full", 20, () -> x.installPatch(0));
        CHECKS.due("its goal", 20, () -> x.installPatch(1));
        CHECKS.due("installed", 3, x::installedLength);
        for (int i = 19; i >= 0; i--) {
            int count = i;
            CHECKS.due("back to " + count, count, x::rollBack);
        }
        CHECKS.due("nothing and abc are gone", true, () -> x.isInstalled(0));
        CHECKS.dueThrow("none left", Checks.STATE, x, x::rollBack);
    }

    /** Promise 23: "if the history is empty." */
    private static void rollBackToTheFirst() {
        DeltaUpdater x = Checks.withVersions("a");
        CHECKS.dueThrow("at first", Checks.STATE, x, x::rollBack);
        x.installVersion(0);
        CHECKS.due("the only one", 0, x::rollBack);
        CHECKS.due("nothing there", 0, x::installedLength);
        CHECKS.dueThrow("again", Checks.STATE, x, x::rollBack);
        CHECKS.due("installed again", 1, () -> x.installVersion(0));
        CHECKS.due("and back again", 0, x::rollBack);
    }

    /** Promise 23: "what there was before is there again", for all 20. */
    private static void rollBackOfAFullHistory() {
        DeltaUpdater x = Checks.withVersions("", "a", "bb", "ccc", "dddd", "eeeee", "ffffff");
        for (int i = 0; i <= 30; i++) {
            x.installVersion(i % 7);
        }
        for (int i = 29; i >= 10; i--) {
            int want = i % 7;
            CHECKS.due("back to the " + i, i - 10, x::rollBack);
            CHECKS.due("what the " + i + " had", want, x::installedLength);
        }
        CHECKS.dueThrow("none left", Checks.STATE, x, x::rollBack);
    }

    /** Promise 23: "... and no more in the history." */
    private static void rolledBackIsNoMoreInTheHistory() {
        DeltaUpdater x = Checks.withVersions("a", "bb", "ccc");
        x.installVersion(0);
        x.installVersion(1);
        x.rollBack();
        CHECKS.due("on what was rolled back", 2, () -> x.installVersion(2));
        CHECKS.due("back", 1, x::rollBack);
        CHECKS.due("a, not bb", 1, x::installedLength);
        for (int i = 2; i <= 20; i++) {
            x.installVersion(1);
        }
        CHECKS.due("back from 20", 19, x::rollBack);
        CHECKS.due("20 again, and none is gone", 20, () -> x.installVersion(2));
        for (int i = 0; i < 20; i++) {
            x.rollBack();
        }
        CHECKS.due("nothing is still the first", 0, x::installedLength);
    }

    /** Promise 24: "whether the installation has its bytes." */
    private static void installedByItsBytes() {
        DeltaUpdater x = Checks.withVersions("", "", "ab", "abc", "a", "aB", "ab", "bb");
        boolean[] none = {true, true, false, false, false, false, false, false};
        for (int i = 0; i < none.length; i++) {
            int version = i;
            CHECKS.due("nothing is " + version, none[version], () -> x.isInstalled(version));
        }
        x.installVersion(6);
        boolean[] ab = {false, false, true, false, false, false, true, false};
        for (int i = 0; i < ab.length; i++) {
            int version = i;
            CHECKS.due("ab is " + version, ab[version], () -> x.isInstalled(version));
        }
    }

    /** Promise 25: from none to 400 bytes. */
    private static void installedLengths() {
        DeltaUpdater x = Checks.withVersions("", "a", "x".repeat(400));
        int[] want = {0, 1, 400};
        for (int i = 0; i < want.length; i++) {
            int version = i;
            x.installVersion(version);
            CHECKS.due("length of " + version, want[version], x::installedLength);
        }
    }

    /** Promises 11, 18 to 21 and 24: "if there is no such version." */
    private static void noSuchVersion() {
        DeltaUpdater x = Checks.withVersions("ab", "ab");
        x.difference(0, 0, 2);
        int[] wrong = {-1, 2, 12, Integer.MIN_VALUE, Integer.MAX_VALUE};
        for (int v : wrong) {
            CHECKS.dueThrow("difference " + v, Checks.INDEX, x, () -> x.difference(v, 0, 2));
            CHECKS.dueThrow("difference 0 " + v, Checks.INDEX, x, () -> x.difference(0, v, 2));
            CHECKS.dueThrow("apply 0 " + v, Checks.INDEX, x, () -> x.apply(0, v));
            CHECKS.dueThrow("steps " + v, Checks.INDEX, x, () -> x.steps(v, 0));
            CHECKS.dueThrow("steps 0 " + v, Checks.INDEX, x, () -> x.steps(0, v));
            CHECKS.dueThrow("steps twice " + v, Checks.INDEX, x, () -> x.steps(v, v));
            CHECKS.dueThrow("leastCost " + v, Checks.INDEX, x, () -> x.leastCost(v, 0));
            CHECKS.dueThrow("leastCost 0 " + v, Checks.INDEX, x, () -> x.leastCost(0, v));
            CHECKS.dueThrow("leastCost twice " + v, Checks.INDEX, x, () -> x.leastCost(v, v));
            CHECKS.dueThrow("install " + v, Checks.INDEX, x, () -> x.installVersion(v));
            CHECKS.dueThrow("isInstalled " + v, Checks.INDEX, x, () -> x.isInstalled(v));
        }
        CHECKS.due("the last one", 1, () -> x.installVersion(1));
        DeltaUpdater none = new DeltaUpdater();
        CHECKS.dueThrow("install none", Checks.INDEX, none, () -> none.installVersion(0));
        CHECKS.dueThrow("none is installed", Checks.INDEX, none, () -> none.isInstalled(0));
        CHECKS.dueThrow("steps of none", Checks.INDEX, none, () -> none.steps(0, 0));
        CHECKS.dueThrow("cost of none", Checks.INDEX, none, () -> none.leastCost(0, 0));
    }

    /** The document's sum, by numbers without an end, of which the lowest 64 bits are taken. */
    private static long digestOf(String numbers) {
        BigInteger d = BigInteger.valueOf(233);
        for (String number : numbers.trim().split(" +")) {
            d = d.multiply(BigInteger.valueOf(31)).add(new BigInteger(number));
        }
        return d.longValue();
    }

    /** Promise 26: "A number d starts with 233"; what there is none of is told as 0. */
    private static void digestOfANewObject() {
        DeltaUpdater x = new DeltaUpdater();
        CHECKS.due("of a new object", digestOf("0 0 0 0 0"), x::digest);
        x.store();
        CHECKS.due("of an empty version", digestOf("0 1 0 0 0 0"), x::digest);
        x.difference(0, 0, 2);
        CHECKS.due("of a patch without instructions", digestOf("0 1 0 1 0 0 0"), x::digest);
    }

    /** Promise 26: "what instruction() tells, in its order", where it tells -1. */
    private static void digestOfMinusOne() {
        DeltaUpdater x = Checks.withVersions(Checks.bytes(1, 2), Checks.bytes(3, 1, 2));
        x.difference(0, 1, 2);
        CHECKS.due("of a LITERAL and a COPY",
                digestOf("0 2 2 1 2 3 3 1 2 1 2 1 -1 1 771 0 0 2 -1 0 0"), x::digest);
    }

    /** Promise 26: "which wraps around as a 64-bit integer." */
    private static void digestWrapsAround() {
        DeltaUpdater x = new DeltaUpdater();
        StringBuilder bytes = new StringBuilder();
        boolean negative = false;
        boolean positive = false;
        for (int n = 1; n <= 400; n++) {
            x.feed(255, 1);
            bytes.append(" 255");
            long want = digestOf(n + bytes.toString() + " 0 0 0 0");
            negative |= want < 0;
            positive |= n > 12 && want > 0;
            if (n % 40 == 0 || n < 20) {
                CHECKS.due("of " + n + " bytes", want, x::digest);
            }
        }
        boolean both = negative && positive;
        CHECKS.due("it has been negative and positive", true, () -> both);
    }

    private static String told(int number, int times) {
        return (" " + number).repeat(times);
    }

    /** Promise 26, where all that has a bound is full. */
    private static void digestOfAFullObject() {
        DeltaUpdater x = Checks.withVersions(Checks.bytes(200).repeat(400));
        for (int i = 0; i < 12; i++) {
            x.difference(0, 0, 2);
        }
        for (int i = 1; i < 12; i++) {
            x.apply(0, 0);
        }
        for (int i = 0; i < 22; i++) {
            x.installVersion(0);
        }
        Checks.feedText(x, Checks.bytes(255).repeat(400));
        // each patch is one COPY of all bytes, as the block behind the last one is looked for first
        String numbers = "400" + told(255, 400) + " 12" + (" 400" + told(200, 400)).repeat(12)
                + " 12" + " 1 0 0 400 -1".repeat(12) + " 400" + told(200, 400) + " 20";
        CHECKS.due("of a full object", digestOf(numbers), x::digest);
    }

    /** Promise 26: "the number of what is in the history", not what it is. */
    private static void digestOfTheHistory() {
        DeltaUpdater x = Checks.withVersions("a", "bb");
        DeltaUpdater y = Checks.withVersions("a", "bb");
        x.installVersion(0);
        y.installVersion(1);
        x.installVersion(1);
        y.installVersion(1);
        CHECKS.due("of two histories of two", x.digest(), y::digest);
        x.installVersion(1);
        CHECKS.due("of one more", y.digest() + 1, x::digest);
        x.rollBack();
        CHECKS.due("of one back", y.digest(), x::digest);
    }
}
