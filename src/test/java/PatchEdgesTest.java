/**
 * The edges of the patches: a test for each sentence of the document that names one, in the
 * document's order. RefusalsTest holds what is refused, and in which order.
 */
public final class PatchEdgesTest {
    private static final Checks CHECKS = new Checks();

    public static void main(String[] args) {
        atMostTwelvePatches();
        costs();
        enoughBytesLeftInTheGoal();
        blockBehindTheLastFound();
        noBlockFoundYet();
        noBlockBehindTheLastFound();
        blocksInAscendingOrder();
        blockOfTheSameBytesAlone();
        literalByteAndTheNext();
        copyMadeLonger();
        literalMadeLonger();
        emptyBaseAndGoal();
        aVersionToItself();
        composableByBytes();
        composedWithItself();
        composedHasBaseAndGoal();
        composedThroughNothing();
        composedPieceByPiece();
        composedCopyMadeLonger();
        composedLiteralMadeLonger();
        noSuchPatch();
        noSuchInstruction();
        whatIs0To3();
        sumsOfLiteralsAreModulo256();
        newnessOfAnEmptyGoal();
        applyToTheBytesOfTheBase();
        applyRefusesTheThirteenth();
        stepsOfTheSame();
        stepsThatLeadNowhere();
        fewestSteps();
        longestWay();
        leastCostOfTheSame();
        leastCostThatLeadsNowhere();
        leastSum();
        CHECKS.end();
    }

    private static void dueDifference(String base, String goal, int size, String want) {
        CHECKS.dueDifference(base, goal, size, want);
    }

    private static String literal(String bytes) {
        return Checks.literal(bytes);
    }

    /** "There are at most 12, numbered from 0 in the order of their creation." */
    private static void atMostTwelvePatches() {
        DeltaUpdater x = Checks.withVersions("ab");
        for (int i = 0; i < 12; i += 2) {
            int number = i;
            CHECKS.due("difference " + number, number, () -> x.difference(0, 0, 2));
            CHECKS.due("patches behind it", number + 1, x::patches);
            CHECKS.due("compose " + (number + 1), number + 1, () -> x.compose(number, 0));
        }
        CHECKS.due("patches, of both kinds", 12, x::patches);
        CHECKS.dueThrow("difference 12", Checks.STATE, x, () -> x.difference(0, 0, 2));
        CHECKS.dueThrow("compose 12", Checks.STATE, x, () -> x.compose(0, 0));
        CHECKS.due("patches stay", 12, x::patches);
    }

    private static void dueCost(String base, String goal, int size, int want) {
        DeltaUpdater x = Checks.withVersions(base, goal);
        x.difference(0, 1, size);
        CHECKS.due("cost of '" + base + "' to '" + goal + "'", want, () -> x.cost(0));
    }

    /** "5 for a COPY, 2 and the number of its bytes for a LITERAL." */
    private static void costs() {
        dueCost("ab", "", 2, 0);
        dueCost("ab", "ab", 2, 5);
        dueCost("ab".repeat(200), "ab".repeat(200), 2, 5);
        dueCost("ab", "x", 2, 3);
        dueCost("ab", "x".repeat(400), 2, 402);
        dueCost("ab", "abab", 2, 10);
        dueCost("ab", "xabx", 2, 11);
        dueCost("ab", "ab".repeat(200), 2, 1000);
    }

    /** "If at least as many bytes as the size are left in the goal." */
    private static void enoughBytesLeftInTheGoal() {
        dueDifference("abc", "abc", 3, "C(0,3)");
        dueDifference("abc", "ab", 3, literal("ab"));
        dueDifference("abcd", "abc", 2, "C(0,2)" + literal("c"));
        dueDifference("abcd", "xab", 2, literal("x") + "C(0,2)");
        dueDifference("abcd", "xa", 2, literal("xa"));
        String long32 = "0123456789abcdefghijklmnopqrstuv";
        dueDifference(long32, long32, 32, "C(0,32)");
        String long31 = long32.substring(0, 31);
        dueDifference(long32, long31, 32, literal(long31));
        dueDifference(long32, long31, 31, "C(0,31)");
    }

    /** "First the block behind the one that was found last." */
    private static void blockBehindTheLastFound() {
        dueDifference("abxyab", "xyab", 2, "C(2,4)");
        dueDifference("aaaaaa", "aaaaaa", 2, "C(0,6)");
        dueDifference("abxyab", "xy-ab", 2, "C(2,2)" + literal("-") + "C(4,2)");
        // behind the last one found, not behind the first one
        dueDifference("abcdefcdab", "abefcdab", 2, "C(0,2)C(4,6)");
        // the bytes behind it are others: all blocks from the first one on
        dueDifference("abcdabef", "abefab", 2, "C(0,2)C(6,2)C(0,2)");
    }

    /** "... (if one was found, ...": nothing is found last at the beginning of each difference. */
    private static void noBlockFoundYet() {
        dueDifference("abab", "-ab", 2, literal("-") + "C(0,2)");
        DeltaUpdater x = Checks.withVersions("abxyab", "xy", "ab");
        x.difference(0, 1, 2);
        x.difference(0, 2, 2);
        CHECKS.due("what an earlier difference found does not count", "C(0,2)",
                () -> Checks.told(x, 1));
    }

    /** "... and there is a block behind it)". */
    private static void noBlockBehindTheLastFound() {
        dueDifference("abcd", "cdab", 2, "C(2,2)C(0,2)");
        dueDifference("abcd", "cdcd", 2, "C(2,2)C(2,2)");
        dueDifference("ab", "abab", 2, "C(0,2)C(0,2)");
        // what is left behind the last block is no block
        dueDifference("abc", "abc", 2, "C(0,2)" + literal("c"));
        dueDifference("abcabcab", "abcabcab", 3, "C(0,6)" + literal("ab"));
        dueDifference("abcab", "abcab-", 3, "C(0,3)" + literal("ab-"));
        // the last block of the longest version
        String most = "ab".repeat(199) + "cd";
        dueDifference(most, "cdcd", 2, "C(398,2)C(398,2)");
    }

    /** "... then all blocks in ascending order." */
    private static void blocksInAscendingOrder() {
        dueDifference("xyababab", "ab", 2, "C(2,2)");
        dueDifference("xyabab", "-ab-ab-ab", 2, literal("-") + "C(2,2)" + literal("-") + "C(4,2)"
                + literal("-") + "C(2,2)");
        dueDifference("xyabzwab", "zwxyab", 2, "C(4,2)C(0,4)");
    }

    /** "A block of the base with the same bytes": not only the same sum, and only whole blocks. */
    private static void blockOfTheSameBytesAlone() {
        String one = Checks.bytes(1, 0, 1);
        String two = Checks.bytes(0, 2, 0);
        dueDifference(one, two, 3, literal(two));
        dueDifference(one + two, two, 3, "C(3,3)");
        dueDifference("abcd", "bc", 2, literal("bc"));
        dueDifference("ab", "ac", 2, literal("ac"));
        dueDifference("ab", "cb", 2, literal("cb"));
    }

    /** "Otherwise the byte at the place is literal, and the next place is the next byte." */
    private static void literalByteAndTheNext() {
        dueDifference("ab", "aab", 2, literal("a") + "C(0,2)");
        dueDifference("ab", "xaab", 2, literal("xa") + "C(0,2)");
        // behind a block: the next place is behind it
        dueDifference("aa", "aaa", 2, "C(0,2)" + literal("a"));
        dueDifference("aba", "ababa", 3, "C(0,3)" + literal("ba"));
    }

    /** "... if this is a COPY whose stretch ends where the block begins; otherwise ..." */
    private static void copyMadeLonger() {
        dueDifference("abcdef", "abcdef", 2, "C(0,6)");
        dueDifference("abcdef", "cdef", 2, "C(2,4)");
        dueDifference("abcdef", "abef", 2, "C(0,2)C(4,2)");
        dueDifference("abcdef", "efabcd", 2, "C(4,2)C(0,4)");
        dueDifference("abcdef", "ab-cd", 2, "C(0,2)" + literal("-") + "C(2,2)");
        // a block found by the search through all of them makes it longer as well
        dueDifference("abab", "abab", 2, "C(0,4)");
    }

    /** "A literal byte makes the last instruction longer if this is a LITERAL; otherwise ..." */
    private static void literalMadeLonger() {
        dueDifference("ab", "x", 2, literal("x"));
        dueDifference("ab", "xyz", 2, literal("xyz"));
        dueDifference("ab", "xabyz", 2, literal("x") + "C(0,2)" + literal("yz"));
        dueDifference("", "x".repeat(400), 2, literal("x".repeat(400)));
    }

    /** "It may be empty", the base or the goal. */
    private static void emptyBaseAndGoal() {
        dueDifference("", "", 2, "");
        dueDifference("ab", "", 2, "");
        dueDifference("", "ab", 2, literal("ab"));
        dueDifference("", "", 32, "");
    }

    /** A base may be its own goal. */
    private static void aVersionToItself() {
        DeltaUpdater x = Checks.withVersions("abcde");
        CHECKS.due("to itself", 0, () -> x.difference(0, 0, 2));
        CHECKS.due("told", "C(0,4)" + literal("e"), () -> Checks.told(x, 0));
        CHECKS.due("too short for the size", 1, () -> x.difference(0, 0, 6));
        CHECKS.due("told by 6", literal("abcde"), () -> Checks.told(x, 1));
        CHECKS.due("applied", 1, () -> x.apply(0, 0));
        CHECKS.due("the same", true, () -> x.areSame(0, 1));
    }

    /** "... can be composed if the goal of p has the same bytes as the base of q." */
    private static void composableByBytes() {
        DeltaUpdater x = Checks.withVersions("ab", "abc", "abc", "ab", "", "abd", "");
        x.difference(0, 1, 2);
        x.difference(2, 3, 2);
        x.difference(0, 4, 2);
        x.difference(6, 5, 2);
        x.difference(5, 0, 2);
        int[][] fits = {{0, 1}, {1, 0}, {2, 3}, {3, 4}, {4, 0}, {1, 2}, {4, 2}};
        for (int p = 0; p < 5; p++) {
            for (int q = 0; q < 5; q++) {
                int before = p;
                int behind = q;
                boolean fit = false;
                for (int[] pair : fits) {
                    fit |= pair[0] == p && pair[1] == q;
                }
                String name = "compose " + p + " " + q;
                if (fit) {
                    CHECKS.due(name, x.patches(), () -> x.compose(before, behind));
                } else {
                    CHECKS.dueThrow(name, Checks.ARGUMENT, x, () -> x.compose(before, behind));
                }
            }
        }
        CHECKS.due("all that fit", 12, x::patches);
    }

    /** The same sentence, where p is q. */
    private static void composedWithItself() {
        DeltaUpdater x = Checks.withVersions("abcabc", "ab");
        x.difference(0, 0, 3);
        CHECKS.due("fits behind itself", 1, () -> x.compose(0, 0));
        CHECKS.due("told", Checks.told(x, 0), () -> Checks.told(x, 1));
        x.difference(0, 1, 2);
        CHECKS.dueThrow("does not fit behind itself", Checks.ARGUMENT, x, () -> x.compose(2, 2));
    }

    /** "The patch that comes out has the base of p and the goal of q." */
    private static void composedHasBaseAndGoal() {
        DeltaUpdater x = Checks.withVersions("abcd", "cd-ab", "-", "abcd");
        x.difference(0, 1, 2);
        x.difference(1, 2, 2);
        x.compose(0, 1);
        CHECKS.due("on the base of p", 4, () -> x.apply(2, 3));
        CHECKS.due("the goal of q", "-", () -> Checks.textOf(x, 4));
        CHECKS.dueThrow("not on the goal of p", Checks.ARGUMENT, x, () -> x.apply(2, 1));
        CHECKS.due("one step", 1, () -> x.steps(0, 2));
        CHECKS.due("its cost", 3, () -> x.leastCost(0, 2));
        x.installVersion(0);
        CHECKS.due("installed", 2, () -> x.installPatch(2));
        CHECKS.due("the goal of q installed", true, () -> x.isInstalled(2));
    }

    /** The same, where the goal of p, the base of p or the goal of q is empty. */
    private static void composedThroughNothing() {
        DeltaUpdater x = Checks.withVersions("abcd", "");
        x.difference(0, 1, 2);
        x.difference(1, 0, 2);
        x.difference(1, 1, 2);
        CHECKS.due("to nothing and back", 3, () -> x.compose(0, 1));
        CHECKS.due("all literal", literal("abcd"), () -> Checks.told(x, 3));
        CHECKS.due("all new", 1.0, () -> x.newness(3));
        CHECKS.due("from nothing and back", 4, () -> x.compose(1, 0));
        CHECKS.due("no instructions", "", () -> Checks.told(x, 4));
        CHECKS.due("nothing behind nothing", 5, () -> x.compose(2, 2));
        CHECKS.due("none there either", 0, () -> x.instructions(5));
        CHECKS.due("it costs nothing", 0, () -> x.cost(5));
        CHECKS.due("nothing new", 0.0, () -> x.newness(5));
        CHECKS.due("applied", "", () -> Checks.textOf(x, x.apply(5, 1)));
    }

    /** The composed patch of the differences from a to b and from b to c has these instructions. */
    private static void dueComposed(String a, String b, String c, int first, int second,
            String want) {
        DeltaUpdater x = Checks.withVersions(a, b, c);
        x.difference(0, 1, first);
        x.difference(1, 2, second);
        String name = "composed '" + a + "' '" + b + "' '" + c + "'";
        CHECKS.due(name, 2, () -> x.compose(0, 1));
        CHECKS.due(name + " told", want, () -> Checks.told(x, 2));
        CHECKS.due(name + " applied", c, () -> Checks.textOf(x, x.apply(2, 0)));
    }

    /** "... what the instructions of p made there, piece by piece." */
    private static void composedPieceByPiece() {
        // p is C(0,4) L(XY) C(4,4)
        dueComposed("abcdefgh", "abcdXYefgh", "abcdXYefgh", 4, 2,
                "C(0,4)" + literal("XY") + "C(4,4)");
        dueComposed("abcdefgh", "abcdXYefgh", "cdXYef", 4, 2, "C(2,2)" + literal("XY") + "C(4,2)");
        dueComposed("abcdefgh", "abcdXYefgh", "dXYefg", 4, 3, "C(3,1)" + literal("XY") + "C(4,3)");
        dueComposed("abcdefgh", "abcdXYefgh", "XY", 4, 2, literal("XY"));
        // pieces of one literal
        dueComposed("", "wxyz", "yzwx", 2, 2, literal("yzwx"));
        dueComposed("", "wxyz", "yz", 2, 2, literal("yz"));
    }

    /** "(a copied byte behind a COPY whose stretch ends where it stands in the base of p, ...". */
    private static void composedCopyMadeLonger() {
        dueComposed("abcdef", "efabcd", "abcdef", 2, 2, "C(0,6)");
        dueComposed("abcd", "ab-cd", "abcd", 2, 2, "C(0,2)" + literal("cd"));
        dueComposed("abcd", "ab--cd", "abcd", 2, 2, "C(0,4)");
        dueComposed("abab", "abab", "abab", 4, 2, "C(0,4)");
        // the same byte again, or one before, does not fit
        dueComposed("ab", "abab", "abab", 2, 4, "C(0,2)C(0,2)");
        dueComposed("abcd", "cdab", "cdab", 2, 4, "C(2,2)C(0,2)");
        // nor does a byte with a literal in between
        dueComposed("abcd", "ab--cd", "ab-cd", 2, 2, "C(0,2)" + literal("-") + "C(2,2)");
    }

    /** "... a literal byte behind a LITERAL); otherwise it begins a new one." */
    private static void composedLiteralMadeLonger() {
        dueComposed("ab", "--ab", "x--y", 2, 2, literal("x--y"));
        dueComposed("ab", "--ab++", "--++", 2, 2, literal("--++"));
        dueComposed("ab", "--ab++", "++ab--", 2, 2, literal("++") + "C(0,2)" + literal("--"));
        dueComposed("ab", "--ab", "x", 2, 2, literal("x"));
    }

    /** Promises 12 and 14 to 18, 22: "if there is no such patch." */
    private static void noSuchPatch() {
        DeltaUpdater x = Checks.withVersions("ab");
        x.difference(0, 0, 2);
        x.difference(0, 0, 2);
        x.installVersion(0);
        int[] wrong = {-1, 2, 12, Integer.MIN_VALUE, Integer.MAX_VALUE};
        for (int p : wrong) {
            CHECKS.dueThrow("compose " + p, Checks.INDEX, x, () -> x.compose(p, 0));
            CHECKS.dueThrow("compose 0 and " + p, Checks.INDEX, x, () -> x.compose(0, p));
            CHECKS.dueThrow("compose twice " + p, Checks.INDEX, x, () -> x.compose(p, p));
            CHECKS.dueThrow("instructions " + p, Checks.INDEX, x, () -> x.instructions(p));
            CHECKS.dueThrow("instruction of " + p, Checks.INDEX, x, () -> x.instruction(p, 0, 0));
            CHECKS.dueThrow("cost " + p, Checks.INDEX, x, () -> x.cost(p));
            CHECKS.dueThrow("newness " + p, Checks.INDEX, x, () -> x.newness(p));
            CHECKS.dueThrow("apply " + p, Checks.INDEX, x, () -> x.apply(p, 0));
            CHECKS.dueThrow("installPatch " + p, Checks.INDEX, x, () -> x.installPatch(p));
        }
        CHECKS.due("the last one", 1, () -> x.instructions(1));
    }

    /** Promise 15: "the number of one of its instructions, from 0." */
    private static void noSuchInstruction() {
        DeltaUpdater x = Checks.withVersions("abcd", "ab-cd", "");
        x.difference(0, 1, 2);
        x.difference(0, 2, 2);
        CHECKS.due("the first", 0, () -> x.instruction(0, 0, 0));
        CHECKS.due("the last", 0, () -> x.instruction(0, 2, 0));
        int[] wrong = {-1, 3, Integer.MIN_VALUE, Integer.MAX_VALUE};
        for (int i : wrong) {
            CHECKS.dueThrow("instruction " + i, Checks.INDEX, x, () -> x.instruction(0, i, 0));
        }
        CHECKS.dueThrow("0 of none", Checks.INDEX, x, () -> x.instruction(1, 0, 0));
        CHECKS.dueThrow("-1 of none", Checks.INDEX, x, () -> x.instruction(1, -1, 0));
    }

    /** Promise 15: "what is not 0 to 3", and -1 for what the other kind has. */
    private static void whatIs0To3() {
        DeltaUpdater x = Checks.withVersions("abcd", "a-cd");
        x.difference(0, 1, 2);
        int[][] want = {{1, -1, 2, (97 + 45) % 256 + 256 * ((2 * 97 + 45) % 256)}, {0, 2, 2, -1}};
        for (int i = 0; i < 2; i++) {
            int instruction = i;
            for (int w = 0; w < 4; w++) {
                int what = w;
                CHECKS.due("what " + what + " of " + instruction, want[instruction][what],
                        () -> x.instruction(0, instruction, what));
            }
            int[] wrong = {-1, 4, Integer.MIN_VALUE, Integer.MAX_VALUE};
            for (int what : wrong) {
                CHECKS.dueThrow("what " + what + " of " + instruction, Checks.INDEX, x,
                        () -> x.instruction(0, instruction, what));
            }
        }
    }

    /** "The weak sum of a row of n bytes ... both modulo 256", where n is more than 32. */
    private static void sumsOfLiteralsAreModulo256() {
        DeltaUpdater x = Checks.withVersions("", Checks.bytes(255).repeat(400),
                Checks.bytes(1).repeat(256), Checks.bytes(128, 128));
        for (int i = 1; i <= 3; i++) {
            x.difference(0, i, 2);
        }
        CHECKS.due("400 bytes of 255", 255 * 400 % 256 + 256 * (255 * 80200 % 256),
                () -> x.instruction(0, 0, 3));
        CHECKS.due("256 bytes of 1", 256 * (32896 % 256), () -> x.instruction(1, 0, 3));
        CHECKS.due("2 bytes of 128", 256 * 128, () -> x.instruction(2, 0, 3));
    }

    /** Promise 17: "0 if the goal is empty." */
    private static void newnessOfAnEmptyGoal() {
        DeltaUpdater x = Checks.withVersions("ab", "", "abx", "x".repeat(399) + "a",
                "ab".repeat(199) + "x");
        x.difference(0, 1, 2);
        x.difference(1, 1, 2);
        x.difference(0, 0, 2);
        x.difference(1, 0, 2);
        x.difference(0, 2, 2);
        x.difference(0, 3, 2);
        x.difference(0, 4, 2);
        double[] want = {0, 0, 0, 1, 1.0 / 3, 1, 1.0 / 399};
        for (int i = 0; i < want.length; i++) {
            int patch = i;
            CHECKS.due("newness " + patch, want[patch], () -> x.newness(patch));
        }
    }

    /** Promise 18: "if the version does not have the bytes of the base." */
    private static void applyToTheBytesOfTheBase() {
        DeltaUpdater x = Checks.withVersions("ab", "abc", "a", "ac", "", "ab", "ba");
        x.difference(0, 1, 2);
        x.difference(4, 3, 2);
        CHECKS.due("another version with these bytes", 7, () -> x.apply(0, 5));
        CHECKS.due("the goal", true, () -> x.areSame(1, 7));
        CHECKS.due("the empty base", 8, () -> x.apply(1, 4));
        CHECKS.due("its goal", true, () -> x.areSame(3, 8));
        int[] others = {1, 2, 3, 4, 6, 7, 8};
        for (int v : others) {
            CHECKS.dueThrow("apply to " + v, Checks.ARGUMENT, x, () -> x.apply(0, v));
        }
        CHECKS.dueThrow("the empty base is not 0", Checks.ARGUMENT, x, () -> x.apply(1, 0));
        CHECKS.due("a version made by apply", 2, () -> x.difference(7, 8, 2));
        CHECKS.due("applied to what was applied", 9, () -> x.apply(2, 7));
    }

    /** Promise 18: "if there are 12 versions." */
    private static void applyRefusesTheThirteenth() {
        DeltaUpdater x = Checks.withVersions("ab", "", "", "", "", "", "", "", "", "", "");
        x.difference(0, 0, 2);
        CHECKS.due("the 12th", 11, () -> x.apply(0, 0));
        CHECKS.dueThrow("the 13th", Checks.STATE, x, () -> x.apply(0, 0));
        CHECKS.due("versions stay", 12, x::versions);
    }

    private static void dueWay(DeltaUpdater x, int from, int to, int steps, int cost) {
        CHECKS.due("steps(" + from + ", " + to + ")", steps, () -> x.steps(from, to));
        CHECKS.due("leastCost(" + from + ", " + to + ")", cost, () -> x.leastCost(from, to));
    }

    /** Promise 19: "0 if they are the same": without patches, with one, and by their bytes. */
    private static void stepsOfTheSame() {
        DeltaUpdater x = Checks.withVersions("ab", "ab", "", "");
        CHECKS.due("without patches", 0, () -> x.steps(0, 0));
        CHECKS.due("the same bytes", 0, () -> x.steps(1, 0));
        CHECKS.due("both empty", 0, () -> x.steps(2, 3));
        x.difference(0, 1, 2);
        x.difference(0, 2, 2);
        x.difference(3, 1, 2);
        CHECKS.due("with a patch", 0, () -> x.steps(0, 0));
        CHECKS.due("with a patch between them", 0, () -> x.steps(0, 1));
        CHECKS.due("with a way around", 0, () -> x.steps(3, 2));
    }

    /** Promise 19: "-1 if no patches lead there." */
    private static void stepsThatLeadNowhere() {
        DeltaUpdater x = Checks.withVersions("a", "b", "c", "");
        CHECKS.due("without patches", -1, () -> x.steps(0, 1));
        CHECKS.due("to nothing", -1, () -> x.steps(0, 3));
        CHECKS.due("from nothing", -1, () -> x.steps(3, 0));
        x.difference(0, 1, 2);
        CHECKS.due("there", 1, () -> x.steps(0, 1));
        CHECKS.due("not back", -1, () -> x.steps(1, 0));
        CHECKS.due("not to another", -1, () -> x.steps(0, 2));
        CHECKS.due("not from another", -1, () -> x.steps(2, 1));
        x.difference(2, 1, 2);
        CHECKS.due("both lead to 1 only", -1, () -> x.steps(0, 2));
        x.difference(1, 0, 2);
        CHECKS.due("around in a circle", -1, () -> x.steps(0, 2));
    }

    /** Promise 19: "the fewest patches." */
    private static void fewestSteps() {
        DeltaUpdater x = Checks.withVersions("a", "b", "c", "d", "b", "c");
        x.difference(0, 1, 2);
        x.difference(4, 2, 2);
        x.difference(5, 3, 2);
        CHECKS.due("by the same bytes", 3, () -> x.steps(0, 3));
        x.difference(1, 3, 2);
        CHECKS.due("a shorter way", 2, () -> x.steps(0, 3));
        x.difference(0, 3, 2);
        CHECKS.due("at once", 1, () -> x.steps(0, 3));
        CHECKS.due("composed", 5, () -> x.compose(0, 1));
        CHECKS.due("composed counts as one", 1, () -> x.steps(0, 5));
    }

    /** A way through all 12 versions, with the patches made in any order. */
    private static void longestWay() {
        int[][] orders = {{0, 1, 2, 3, 4, 5, 6, 7, 8, 9, 10}, {10, 9, 8, 7, 6, 5, 4, 3, 2, 1, 0},
            {5, 0, 10, 3, 8, 1, 6, 9, 2, 7, 4}};
        for (int[] order : orders) {
            DeltaUpdater x = Checks.withVersions("a", "b", "c", "d", "e", "f", "g", "h", "i", "j",
                    "k", "l");
            for (int from : order) {
                x.difference(from, from + 1, 2);
            }
            dueWay(x, 0, 11, 11, 33);
            dueWay(x, 11, 0, -1, -1);
            x.difference(11, 0, 2);
            dueWay(x, 1, 0, 11, 33);
            dueWay(x, 11, 11, 0, 0);
        }
    }

    /** Promise 20: "0 if they are the same." */
    private static void leastCostOfTheSame() {
        DeltaUpdater x = Checks.withVersions("ab", "ab", "", "");
        CHECKS.due("without patches", 0, () -> x.leastCost(0, 0));
        CHECKS.due("the same bytes", 0, () -> x.leastCost(1, 0));
        CHECKS.due("both empty", 0, () -> x.leastCost(2, 3));
        x.difference(0, 1, 2);
        CHECKS.due("a patch between them costs", 5, () -> x.cost(0));
        CHECKS.due("but there is none needed", 0, () -> x.leastCost(0, 1));
    }

    /** Promise 20: "-1 if no patches lead there": not 0, as where they lead for nothing. */
    private static void leastCostThatLeadsNowhere() {
        DeltaUpdater x = Checks.withVersions("a", "", "c");
        CHECKS.due("without patches", -1, () -> x.leastCost(0, 1));
        x.difference(0, 1, 2);
        CHECKS.due("to nothing, for nothing", 0, () -> x.leastCost(0, 1));
        CHECKS.due("not back", -1, () -> x.leastCost(1, 0));
        CHECKS.due("not to another", -1, () -> x.leastCost(0, 2));
        CHECKS.due("not from another", -1, () -> x.leastCost(2, 1));
        x.difference(1, 2, 2);
        CHECKS.due("through nothing", 3, () -> x.leastCost(0, 2));
    }

    /** Promise 20: "the least sum of costs": of several patches between the same two as well. */
    private static void leastSum() {
        String block = "0123456789";
        DeltaUpdater x = Checks.withVersions(block, block + block, "");
        x.difference(0, 1, 32);
        dueWay(x, 0, 1, 1, 22);
        x.difference(0, 1, 10);
        dueWay(x, 0, 1, 1, 10);
        x.difference(0, 1, 4);
        CHECKS.due("a dearer one behind it", 18, () -> x.cost(2));
        dueWay(x, 0, 1, 1, 10);
        // a detour through nothing costs as much as all bytes new
        x.difference(0, 2, 2);
        x.difference(2, 1, 2);
        dueWay(x, 0, 1, 1, 10);
        dueWay(x, 2, 1, 1, 22);
        // a cheap detour against a dear patch
        DeltaUpdater y = Checks.withVersions("abcd", "dcba-", "");
        y.difference(0, 1, 2);
        y.difference(0, 2, 2);
        y.difference(2, 1, 2);
        dueWay(y, 0, 1, 1, 7);
        String pairs = "abcdefgh";
        DeltaUpdater z = Checks.withVersions(pairs, "ghefcdab", "");
        z.difference(0, 1, 2);
        dueWay(z, 0, 1, 1, 20);
        z.difference(0, 2, 2);
        z.difference(2, 1, 2);
        dueWay(z, 0, 1, 1, 10);
    }
}
