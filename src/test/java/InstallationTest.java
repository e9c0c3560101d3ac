/** Promises 21 to 26: the installation, its history, and the digest. */
public final class InstallationTest {
    private static final Checks CHECKS = new Checks();

    public static void main(String[] args) {
        installVersion();
        fullHistory();
        installPatch();
        installPatchRefuses();
        rollBack();
        isInstalled();
        digest();
        CHECKS.end();
    }

    /** Promises 21 and 25. */
    private static void installVersion() {
        DeltaUpdater x = Checks.withVersions("abc", "", "de");
        CHECKS.due("install 0", 1, () -> x.installVersion(0));
        CHECKS.due("installed 0", 3, x::installedLength);
        CHECKS.due("install it again", 2, () -> x.installVersion(0));
        CHECKS.due("install nothing", 3, () -> x.installVersion(1));
        CHECKS.due("nothing installed", 0, x::installedLength);
        CHECKS.due("install 2", 4, () -> x.installVersion(2));
        CHECKS.due("installed 2", 2, x::installedLength);
        int[] wrong = {-1, 3, Integer.MIN_VALUE, Integer.MAX_VALUE};
        for (int v : wrong) {
            CHECKS.dueThrow("install " + v, Checks.INDEX, x, () -> x.installVersion(v));
        }
    }

    /** The history has at most 20; the earliest goes. */
    private static void fullHistory() {
        DeltaUpdater x = Checks.withVersions("a", "bb", "ccc");
        for (int i = 0; i < 20; i++) {
            int count = i + 1;
            CHECKS.due("history " + count, count, () -> x.installVersion((count - 1) % 3));
        }
        CHECKS.due("history stays 20", 20, () -> x.installVersion(2));
        CHECKS.due("history stays 20 again", 20, () -> x.installVersion(2));
        // in the history now: versions 0 and so on up to the 20th, and 2; nothing and 0 are gone
        CHECKS.due("back to the 21st", 19, x::rollBack);
        CHECKS.due("the 21st", 3, x::installedLength);
        for (int i = 19; i >= 1; i--) {
            int want = i;
            CHECKS.due("back to the " + i, want - 1, x::rollBack);
            CHECKS.due("length of the " + i, want % 3 + 1, x::installedLength);
        }
        CHECKS.dueThrow("no more", Checks.STATE, x, x::rollBack);
        CHECKS.due("the earliest is gone", true, () -> x.isInstalled(1));
    }

    /** Promise 22. */
    private static void installPatch() {
        DeltaUpdater x = Checks.withVersions("abcd", "-cdab", "", "abcd");
        x.difference(0, 1, 2);
        x.difference(1, 3, 2);
        x.difference(2, 0, 2);
        CHECKS.due("on nothing", 1, () -> x.installPatch(2));
        CHECKS.due("its goal", true, () -> x.isInstalled(0));
        CHECKS.due("on the base", 2, () -> x.installPatch(0));
        CHECKS.due("the goal", true, () -> x.isInstalled(1));
        CHECKS.due("and back", 3, () -> x.installPatch(1));
        CHECKS.due("on the same bytes", 4, () -> x.installPatch(0));
        CHECKS.due("roll back", 3, x::rollBack);
        CHECKS.due("as before", true, () -> x.isInstalled(3));
        CHECKS.due("rolled back", 4, x::installedLength);
        for (int i = 0; i < 17; i++) {
            x.installVersion(0);
        }
        CHECKS.due("history stays 20", 20, () -> x.installPatch(0));
    }

    private static void installPatchRefuses() {
        DeltaUpdater x = Checks.withVersions("abcd", "-cdab", "abc");
        x.difference(0, 1, 2);
        CHECKS.dueThrow("nothing installed", Checks.ARGUMENT, x, () -> x.installPatch(0));
        CHECKS.dueThrow("no patch", Checks.INDEX, x, () -> x.installPatch(1));
        CHECKS.dueThrow("patch -1", Checks.INDEX, x, () -> x.installPatch(-1));
        x.installVersion(2);
        CHECKS.dueThrow("shorter", Checks.ARGUMENT, x, () -> x.installPatch(0));
        x.installVersion(0);
        CHECKS.due("installed", 3, () -> x.installPatch(0));
        CHECKS.dueThrow("twice", Checks.ARGUMENT, x, () -> x.installPatch(0));
    }

    /** Promise 23. */
    private static void rollBack() {
        DeltaUpdater x = Checks.withVersions("a", "bb");
        CHECKS.dueThrow("no history", Checks.STATE, x, x::rollBack);
        x.installVersion(1);
        x.installVersion(0);
        CHECKS.due("back to 1", 1, x::rollBack);
        CHECKS.due("1 again", true, () -> x.isInstalled(1));
        CHECKS.due("install after rollBack", 2, () -> x.installVersion(0));
        CHECKS.due("back to 1 again", 1, x::rollBack);
        CHECKS.due("still 1", true, () -> x.isInstalled(1));
        CHECKS.due("back to nothing", 0, x::rollBack);
        CHECKS.due("nothing", 0, x::installedLength);
        CHECKS.dueThrow("none left", Checks.STATE, x, x::rollBack);
    }

    /** Promise 24. */
    private static void isInstalled() {
        DeltaUpdater x = Checks.withVersions("", "ab", "abc", "ab", "");
        CHECKS.due("nothing is the empty version", true, () -> x.isInstalled(4));
        CHECKS.due("nothing is no other", false, () -> x.isInstalled(1));
        x.installVersion(1);
        boolean[] want = {false, true, false, true, false};
        for (int i = 0; i < want.length; i++) {
            int version = i;
            CHECKS.due("isInstalled " + i, want[version], () -> x.isInstalled(version));
        }
        int[] wrong = {-1, 5, Integer.MIN_VALUE, Integer.MAX_VALUE};
        for (int v : wrong) {
            CHECKS.dueThrow("isInstalled " + v, Checks.INDEX, x, () -> x.isInstalled(v));
        }
    }

    private static long digestOf(long... numbers) {
        long d = 233;
        for (long number : numbers) {
            d = d * 31 + number;
        }
        return d;
    }

    /** Promise 26. */
    private static void digest() {
        DeltaUpdater x = new DeltaUpdater();
        x.feed(0x61FF, 2);
        CHECKS.due("a buffer", digestOf(2, 0x61, 255, 0, 0, 0, 0), x::digest);
        x.store();
        CHECKS.due("a version", digestOf(0, 1, 2, 0x61, 255, 0, 0, 0), x::digest);
        x.feed(0x0161FFL, 3);
        x.store();
        x.feed(9, 1);
        x.difference(0, 1, 2);
        CHECKS.due("a patch", digestOf(1, 9, 2, 2, 0x61, 255, 3, 1, 0x61, 255,
                1, 2, 1, -1, 1, 257, 0, 0, 2, -1, 0, 0), x::digest);
        x.installVersion(0);
        x.installPatch(0);
        CHECKS.due("an installation", digestOf(1, 9, 2, 2, 0x61, 255, 3, 1, 0x61, 255,
                1, 2, 1, -1, 1, 257, 0, 0, 2, -1, 3, 1, 0x61, 255, 2), x::digest);
        x.rollBack();
        x.difference(1, 1, 32);
        CHECKS.due("rolled back", digestOf(1, 9, 2, 2, 0x61, 255, 3, 1, 0x61, 255,
                2, 2, 1, -1, 1, 257, 0, 0, 2, -1, 1, 1, -1, 3, (1 + 0x61 + 255) % 256
                + 256 * ((3 + 2 * 0x61 + 255) % 256), 2, 0x61, 255, 1), x::digest);
    }
}
