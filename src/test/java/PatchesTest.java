/** Promises 11 to 20: patches, their composition and application, and the ways they make. */
public final class PatchesTest {
    private static final Checks CHECKS = new Checks();

    public static void main(String[] args) {
        difference();
        differenceRefuses();
        compose();
        composeRefuses();
        instructions();
        costAndNewness();
        apply();
        applyRefuses();
        ways();
        waysAmongTheSame();
        waysRefused();
        fullLength();
        CHECKS.end();
    }

    private static void dueDifference(String base, String goal, int size, String want) {
        CHECKS.dueDifference(base, goal, size, want);
    }

    private static String literal(String bytes) {
        return Checks.literal(bytes);
    }

    /** Promise 11. */
    private static void difference() {
        dueDifference("abcd", "abcd", 2, "C(0,4)");
        dueDifference("abcd", "cdab", 2, "C(2,2)C(0,2)");
        dueDifference("abcd", "xabycd", 2, literal("x") + "C(0,2)" + literal("y") + "C(2,2)");
        dueDifference("abcd", "xyz", 2, literal("xyz"));
        dueDifference("abcde", "abcde", 2, "C(0,4)" + literal("e"));
        dueDifference("", "abc", 2, literal("abc"));
        dueDifference("abc", "", 2, "");
        dueDifference("", "", 2, "");
        dueDifference("abcd", "bc", 2, literal("bc"));
        dueDifference("abc", "abc", 32, literal("abc"));
        dueDifference("abcabc", "abcabcab", 3, "C(0,6)" + literal("ab"));
        // the block behind the one found last goes before an earlier one with the same bytes
        dueDifference("abxyab", "xyab", 2, "C(2,4)");
        dueDifference("abab", "ababab", 2, "C(0,4)C(0,2)");
        dueDifference("aaaa", "aaaaaa", 2, "C(0,4)C(0,2)");
        // also where literal bytes stand between
        dueDifference("abxyab", "xyzab", 2, "C(2,2)" + literal("z") + "C(4,2)");
        dueDifference("abxyab", "zab", 2, literal("z") + "C(0,2)");
        // not the block behind an earlier find, but behind the last one
        dueDifference("abcdabcdab", "cdzcdzab", 2,
                "C(2,2)" + literal("z") + "C(2,2)" + literal("z") + "C(4,2)");
        // a block found later goes on behind the stretch although another one is in between
        dueDifference("abcdab", "cdabcd", 2, "C(2,4)C(2,2)");
        // the last bytes of the base are in no block
        dueDifference("abc", "bc", 2, literal("bc"));
        dueDifference("abcde", "cdeab", 2, "C(2,2)" + literal("e") + "C(0,2)");
        String long32 = "0123456789abcdefghijklmnopqrstuv";
        dueDifference(long32, "-" + long32, 32, literal("-") + "C(0,32)");
    }

    private static void differenceRefuses() {
        DeltaUpdater x = Checks.withVersions("abcd", "cdab");
        CHECKS.dueThrow("base -1", Checks.INDEX, x, () -> x.difference(-1, 0, 2));
        CHECKS.dueThrow("base 2", Checks.INDEX, x, () -> x.difference(2, 0, 2));
        CHECKS.dueThrow("goal -1", Checks.INDEX, x, () -> x.difference(0, -1, 2));
        CHECKS.dueThrow("goal 2, size 1", Checks.INDEX, x, () -> x.difference(0, 2, 1));
        int[] wrong = {1, 33, 0, -2, Integer.MIN_VALUE, Integer.MAX_VALUE};
        for (int size : wrong) {
            CHECKS.dueThrow("size " + size, Checks.ARGUMENT, x, () -> x.difference(0, 1, size));
        }
        for (int i = 0; i < 12; i++) {
            int number = i;
            CHECKS.due("patch " + i, number, () -> x.difference(0, 1, 2));
        }
        CHECKS.dueThrow("the 13th", Checks.STATE, x, () -> x.difference(0, 1, 2));
        CHECKS.dueThrow("the 13th, size", Checks.ARGUMENT, x, () -> x.difference(0, 1, 1));
        CHECKS.dueThrow("the 13th, goal", Checks.INDEX, x, () -> x.difference(0, 2, 2));
        CHECKS.due("patches stay 12", 12, x::patches);
    }

    /** Promise 12. */
    private static void compose() {
        // 0 to 1 is "x" C(0,4) "yz", 1 to 2 is C(2,2) "-" C(0,2) C(4,2), 2 to 0 is literal
        DeltaUpdater x = Checks.withVersions("abcd", "xabcdyz", "bc-xady", "xabcdyz");
        x.difference(0, 1, 4);
        x.difference(1, 2, 2);
        CHECKS.due("first told", literal("x") + "C(0,4)" + literal("yz"), () -> Checks.told(x, 0));
        CHECKS.due("second told", "C(2,2)" + literal("-") + "C(0,2)C(4,2)",
                () -> Checks.told(x, 1));
        CHECKS.due("compose", 2, () -> x.compose(0, 1));
        CHECKS.due("composed told", "C(1,2)" + literal("-x") + "C(0,1)C(3,1)" + literal("y"),
                () -> Checks.told(x, 2));
        CHECKS.due("composed cost", 3 * 5 + 2 * 2 + 3, () -> x.cost(2));
        CHECKS.due("composed applied", "bc-xady", () -> Checks.textOf(x, x.apply(2, 0)));

        // a base with the same bytes, but of another version; stretches join across instructions
        DeltaUpdater y = Checks.withVersions("abcdef", "ab--cdef", "abcdef", "ab--cdef");
        y.difference(0, 1, 2);
        y.difference(3, 2, 2);
        CHECKS.due("parted", "C(0,2)C(4,4)", () -> Checks.told(y, 1));
        CHECKS.due("compose with the same bytes", 2, () -> y.compose(0, 1));
        CHECKS.due("joined", "C(0,6)", () -> Checks.told(y, 2));
        CHECKS.due("a composed one composed", 3, () -> y.compose(2, 0));
        CHECKS.due("as the first one", Checks.told(y, 0), () -> Checks.told(y, 3));
    }

    private static void composeRefuses() {
        DeltaUpdater x = Checks.withVersions("abcd", "cdab", "ab");
        x.difference(0, 1, 2);
        x.difference(1, 2, 2);
        CHECKS.dueThrow("compose(1, 0)", Checks.ARGUMENT, x, () -> x.compose(1, 0));
        CHECKS.dueThrow("compose(0, 0)", Checks.ARGUMENT, x, () -> x.compose(0, 0));
        CHECKS.dueThrow("compose(2, 0)", Checks.INDEX, x, () -> x.compose(2, 0));
        CHECKS.dueThrow("compose(0, 2)", Checks.INDEX, x, () -> x.compose(0, 2));
        CHECKS.dueThrow("compose(-1, 0)", Checks.INDEX, x, () -> x.compose(-1, 0));
        CHECKS.dueThrow("compose(0, -1)", Checks.INDEX, x, () -> x.compose(0, -1));
        for (int i = 2; i < 12; i++) {
            int number = i;
            CHECKS.due("compose " + i, number, () -> x.compose(0, 1));
        }
        CHECKS.dueThrow("compose the 13th", Checks.STATE, x, () -> x.compose(0, 1));
        CHECKS.dueThrow("the 13th that does not fit", Checks.ARGUMENT, x, () -> x.compose(1, 0));
        CHECKS.dueThrow("the 13th of no patch", Checks.INDEX, x, () -> x.compose(12, 0));
    }

    /** Promises 13 to 15. */
    private static void instructions() {
        DeltaUpdater x = Checks.withVersions("abcd", "-cd", "");
        CHECKS.due("no patches", 0, x::patches);
        CHECKS.dueThrow("instructions of no patch", Checks.INDEX, x, () -> x.instructions(0));
        x.difference(0, 1, 2);
        x.difference(0, 2, 2);
        CHECKS.due("two patches", 2, x::patches);
        CHECKS.due("instructions", 2, () -> x.instructions(0));
        CHECKS.due("no instructions", 0, () -> x.instructions(1));
        int[][] want = {{1, -1, 1, 45 + 256 * 45}, {0, 2, 2, -1}};
        for (int i = 0; i < 2; i++) {
            for (int what = 0; what < 4; what++) {
                int of = i;
                int w = what;
                CHECKS.due("instruction " + i + " " + what, want[of][w],
                        () -> x.instruction(0, of, w));
            }
        }
        int[][] wrong = {{-1, 0, 0}, {2, 0, 0}, {0, -1, 0}, {0, 2, 0}, {0, 0, -1}, {0, 0, 4},
            {1, 0, 0}, {Integer.MIN_VALUE, 0, 0}, {0, Integer.MAX_VALUE, 0},
            {0, 0, Integer.MAX_VALUE}, {0, 0, Integer.MIN_VALUE}};
        for (int[] w : wrong) {
            CHECKS.dueThrow("instruction(" + w[0] + ", " + w[1] + ", " + w[2] + ")",
                    Checks.INDEX, x, () -> x.instruction(w[0], w[1], w[2]));
        }
        CHECKS.dueThrow("instructions(2)", Checks.INDEX, x, () -> x.instructions(2));
        CHECKS.dueThrow("instructions(-1)", Checks.INDEX, x, () -> x.instructions(-1));
    }

    /** Promises 16 and 17. */
    private static void costAndNewness() {
        DeltaUpdater x = Checks.withVersions("abcd", "xxcdabz", "", "xyz");
        x.difference(0, 1, 2);
        x.difference(0, 0, 2);
        x.difference(0, 2, 2);
        x.difference(2, 3, 2);
        CHECKS.due("cost", 4 + 5 + 5 + 3, () -> x.cost(0));
        CHECKS.due("cost of a copy", 5, () -> x.cost(1));
        CHECKS.due("cost of none", 0, () -> x.cost(2));
        CHECKS.due("cost of a literal", 5, () -> x.cost(3));
        CHECKS.due("newness", 3.0 / 7, () -> x.newness(0));
        CHECKS.due("newness of a copy", 0.0, () -> x.newness(1));
        CHECKS.due("newness of none", 0.0, () -> x.newness(2));
        CHECKS.due("newness of a literal", 1.0, () -> x.newness(3));
        int[] wrong = {-1, 4, Integer.MIN_VALUE, Integer.MAX_VALUE};
        for (int patch : wrong) {
            CHECKS.dueThrow("cost " + patch, Checks.INDEX, x, () -> x.cost(patch));
            CHECKS.dueThrow("newness " + patch, Checks.INDEX, x, () -> x.newness(patch));
        }
    }

    /** Promise 18. */
    private static void apply() {
        DeltaUpdater x = Checks.withVersions("abcd", "-cdab", "abcd");
        x.difference(0, 1, 2);
        CHECKS.due("apply", 3, () -> x.apply(0, 0));
        CHECKS.due("applied", "-cdab", () -> Checks.textOf(x, 3));
        CHECKS.due("apply to the same bytes", 4, () -> x.apply(0, 2));
        CHECKS.due("applied again", true, () -> x.areSame(1, 4));
        CHECKS.due("versions", 5, x::versions);
    }

    private static void applyRefuses() {
        DeltaUpdater x = Checks.withVersions("abcd", "-cdab", "abc");
        x.difference(0, 1, 2);
        CHECKS.dueThrow("apply(0, 1)", Checks.ARGUMENT, x, () -> x.apply(0, 1));
        CHECKS.dueThrow("apply(0, 2)", Checks.ARGUMENT, x, () -> x.apply(0, 2));
        CHECKS.dueThrow("apply(1, 0)", Checks.INDEX, x, () -> x.apply(1, 0));
        CHECKS.dueThrow("apply(-1, 0)", Checks.INDEX, x, () -> x.apply(-1, 0));
        CHECKS.dueThrow("apply(0, 3)", Checks.INDEX, x, () -> x.apply(0, 3));
        CHECKS.dueThrow("apply(0, -1)", Checks.INDEX, x, () -> x.apply(0, -1));
        for (int i = 3; i < 12; i++) {
            x.apply(0, 0);
        }
        CHECKS.dueThrow("apply the 13th", Checks.STATE, x, () -> x.apply(0, 0));
        CHECKS.dueThrow("the 13th of another base", Checks.ARGUMENT, x, () -> x.apply(0, 1));
        CHECKS.dueThrow("the 13th of no version", Checks.INDEX, x, () -> x.apply(0, 12));
        CHECKS.due("versions stay 12", 12, x::versions);
    }

    private static void dueWay(DeltaUpdater x, int from, int to, int steps, int cost) {
        CHECKS.due("steps(" + from + ", " + to + ")", steps, () -> x.steps(from, to));
        CHECKS.due("leastCost(" + from + ", " + to + ")", cost, () -> x.leastCost(from, to));
    }

    /** Promises 19 and 20: fewer patches may cost more. */
    private static void ways() {
        DeltaUpdater x = Checks.withVersions("abcdefgh", "abcdefghabcdefgh", "abcdefghabcdefghij");
        dueWay(x, 0, 1, -1, -1);
        dueWay(x, 2, 2, 0, 0);
        x.difference(1, 2, 8); // a copy of both blocks and 2 literal bytes: 5 + 4
        x.difference(0, 1, 8); // the block twice: 10
        CHECKS.due("cost 0", 9, () -> x.cost(0));
        CHECKS.due("cost 1", 10, () -> x.cost(1));
        dueWay(x, 0, 1, 1, 10);
        dueWay(x, 0, 2, 2, 19);
        x.difference(0, 2, 9); // nothing found: 2 + 18
        CHECKS.due("cost 2", 20, () -> x.cost(2));
        dueWay(x, 0, 2, 1, 19);
        dueWay(x, 2, 0, -1, -1);
        dueWay(x, 0, 0, 0, 0);
        x.difference(0, 2, 8); // the block twice and 2 literal bytes: 10 + 4
        dueWay(x, 0, 2, 1, 14);
    }

    /** A way goes through bytes, whichever versions have them; a patch to nothing costs nothing. */
    private static void waysAmongTheSame() {
        DeltaUpdater x = Checks.withVersions("ab", "abc", "", "ab", "abc", "", "");
        x.difference(0, 1, 2); // 5 + 3
        x.difference(4, 5, 2); // 0
        x.difference(6, 3, 2); // 4
        dueWay(x, 3, 4, 1, 8);
        dueWay(x, 3, 2, 2, 8);
        dueWay(x, 1, 0, 2, 4);
        dueWay(x, 5, 1, 2, 12);
        dueWay(x, 0, 3, 0, 0);
        dueWay(x, 6, 2, 0, 0);
        // versions made after the patches count as well
        CHECKS.due("store", 7, () -> Checks.storeText(x, "abc"));
        dueWay(x, 7, 6, 1, 0);
        dueWay(x, 2, 7, 2, 12);
        // a long chain, made from its end on
        DeltaUpdater y = Checks.withVersions("a", "b", "c", "d", "e", "f", "g", "h", "i", "j", "k",
                "l");
        for (int i = 10; i >= 0; i--) {
            y.difference(i, i + 1, 2);
        }
        dueWay(y, 0, 11, 11, 33);
        dueWay(y, 11, 0, -1, -1);
        y.difference(11, 0, 2);
        dueWay(y, 11, 10, 11, 33);
        dueWay(y, 5, 4, 11, 33);
    }

    private static void waysRefused() {
        DeltaUpdater x = Checks.withVersions("a", "b");
        int[] wrong = {-1, 2, Integer.MIN_VALUE, Integer.MAX_VALUE};
        for (int v : wrong) {
            CHECKS.dueThrow("steps from " + v, Checks.INDEX, x, () -> x.steps(v, 0));
            CHECKS.dueThrow("steps to " + v, Checks.INDEX, x, () -> x.steps(0, v));
            CHECKS.dueThrow("steps of " + v, Checks.INDEX, x, () -> x.steps(v, v));
            CHECKS.dueThrow("leastCost from " + v, Checks.INDEX, x, () -> x.leastCost(v, 0));
            CHECKS.dueThrow("leastCost to " + v, Checks.INDEX, x, () -> x.leastCost(0, v));
            CHECKS.dueThrow("leastCost of " + v, Checks.INDEX, x, () -> x.leastCost(v, v));
        }
    }

    /** Versions of 400 bytes: a literal of all of them, and instructions of one byte each. */
    private static void fullLength() {
        String up = "abcdefghij".repeat(40);
        StringBuilder down = new StringBuilder(up).reverse();
        DeltaUpdater x = Checks.withVersions(up, down.toString(), "ji");
        x.difference(0, 1, 2);
        CHECKS.due("all literal", literal(down.toString()), () -> Checks.told(x, 0));
        CHECKS.due("cost of 400", 402, () -> x.cost(0));
        x.difference(1, 1, 2);
        CHECKS.due("all copied", "C(0,400)", () -> Checks.told(x, 1));
        DeltaUpdater y = Checks.withVersions("ab", "ab".repeat(200));
        y.difference(0, 1, 2);
        CHECKS.due("200 copies", 200, () -> y.instructions(0));
        CHECKS.due("cost of 200 copies", 1000, () -> y.cost(0));
        CHECKS.due("last copy", 0, () -> y.instruction(0, 199, 1));
        CHECKS.dueThrow("behind the last", Checks.INDEX, y, () -> y.instruction(0, 200, 0));
    }
}
