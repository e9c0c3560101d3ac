import java.util.Objects;

/** What the tests share: it counts wrong answers and makes versions out of texts. */
final class Checks {
    /** A call that may throw. */
    interface Call {
        Object answer();
    }

    static final Class<?> INDEX = IndexOutOfBoundsException.class;
    static final Class<?> ARGUMENT = IllegalArgumentException.class;
    static final Class<?> STATE = IllegalStateException.class;

    private int wrong = 0;

    void due(String what, Object want, Call call) {
        Object got = outcome(call);
        if (!Objects.equals(got, want)) {
            wrong++;
            System.out.println(what + " answered " + got + ", due is " + want);
        }
    }

    /** The call throws exactly this exception, and the object's digest stays as it was. */
    void dueThrow(String what, Class<?> want, DeltaUpdater on, Call call) {
        long before = on.digest();
        due(what, want, call);
        due(what + ", then digest()", before, on::digest);
    }

    /** The difference has these instructions, as told() tells them, and they make the goal. */
    void dueDifference(String base, String goal, int size, String want) {
        DeltaUpdater x = withVersions(base, goal);
        String name = "difference of '" + base + "' and '" + goal + "' by " + size;
        due(name, 0, () -> x.difference(0, 1, size));
        due(name + " tells", want, () -> told(x, 0));
        due(name + " applied", goal, () -> textOf(x, x.apply(0, 0)));
    }

    void end() {
        System.out.println(wrong == 0 ? "all answers are as due" : wrong + " answers are wrong");
        if (wrong != 0) {
            System.exit(1);
        }
    }

    /** The answer of a call, or the class of what it throws. */
    static Object outcome(Call call) {
        try {
            return call.answer();
        } catch (RuntimeException thrown) {
            return isOfOurOwn(thrown) ? thrown.getClass() : "thrown by the library: " + thrown;
        }
    }

    /** A list's own IndexOutOfBoundsException has the due class, but LANGUAGE.md 7 rules it out. */
    private static boolean isOfOurOwn(RuntimeException thrown) {
        String thrower = thrown.getStackTrace()[0].getClassName();
        return thrower.startsWith("DeltaUpdater") || thrower.startsWith("Model");
    }

    /** Feeds 8 bytes a call: an object is used for at most 512 calls. */
    static void feedText(DeltaUpdater on, String text) {
        for (int start = 0; start < text.length(); start += 8) {
            int end = Math.min(start + 8, text.length());
            long bytes = 0;
            for (int i = start; i < end; i++) {
                bytes = bytes << 8 | text.charAt(i);
            }
            on.feed(bytes, end - start);
        }
    }

    /** These bytes as a text. */
    static String bytes(int... bytes) {
        StringBuilder text = new StringBuilder();
        for (int b : bytes) {
            text.append((char) b);
        }
        return text.toString();
    }

    static int storeText(DeltaUpdater on, String text) {
        feedText(on, text);
        return on.store();
    }

    /** An object whose versions are these texts. */
    static DeltaUpdater withVersions(String... texts) {
        DeltaUpdater made = new DeltaUpdater();
        for (String text : texts) {
            storeText(made, text);
        }
        return made;
    }

    static String textOf(DeltaUpdater of, int version) {
        StringBuilder text = new StringBuilder();
        int length = of.length(version);
        for (int place = 0; place < length; place++) {
            text.append((char) of.byteAt(version, place));
        }
        return text.toString();
    }

    /** The instructions of a patch as a text: C(first place, length) and L(length, weak sum). */
    static String told(DeltaUpdater of, int patch) {
        StringBuilder text = new StringBuilder();
        int instructions = of.instructions(patch);
        for (int i = 0; i < instructions; i++) {
            int kind = of.instruction(patch, i, 0);
            int first = of.instruction(patch, i, 1);
            int length = of.instruction(patch, i, 2);
            int sum = of.instruction(patch, i, 3);
            boolean ofItsKind = kind == 0 ? first >= 0 && sum == -1 : kind == 1 && first == -1;
            text.append(!ofItsKind ? "?" : kind == 0 ? "C(" + first + "," + length + ")"
                    : "L(" + length + "," + sum + ")");
        }
        return text.toString();
    }

    /** A LITERAL of these bytes, as told() tells it. */
    static String literal(String bytes) {
        int a = 0;
        int b = 0;
        for (int i = 0; i < bytes.length(); i++) {
            a += bytes.charAt(i);
            b += (bytes.length() - i) * bytes.charAt(i);
        }
        return "L(" + bytes.length() + "," + (a % 256 + 256 * (b % 256)) + ")";
    }
}
