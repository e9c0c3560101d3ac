import java.util.Objects;

/** What the tests share: it counts wrong answers and makes versions out of texts. */
final class Checks {
    /** A call that may throw. */
    interface Call {
        Object answer();
    }

    static final Class<?> INDEX = IndexOutOfBoundsException.class;
    static final Class<?> ARGUMENT = IllegalArgumentException.class;
    static final Class<?> STATE = IllegalStateException.class;

    private int wrong = 0;

    void due(String what, Object want, Call call) {
        Object got = outcome(call);
        if (!Objects.equals(got, want)) {
            wrong++;
            System.out.println(what + " answered " + got + ", due is " + want);
        }
    }

    /** The call throws exactly this exception, and the object's digest stays as it was. */
    void dueThrow(String what, Class<?> want, DeltaUpdater on, Call call) {
        long before = on.digest();
        due(what, want, call);
        due(what + ", then digest()", before, on::digest);
    }

    void end() {
        System.out.println(wrong == 0 ? "all answers are as due" : wrong + " answers are wrong");
        if (wrong != 0) {
            System.exit(1);
        }
    }

    /** The answer of a call, or the class of what it throws. */
    static Object outcome(Call call) {
        try {
            return call.answer();
        } catch (RuntimeException thrown) {
            return isOfOurOwn(thrown) ? thrown.getClass() : "thrown by the library: " + thrown;
        }
    }

    /** A list's own IndexOutOfBoundsException has the due class, but LANGUAGE.md 7 rules it out. */
    private static boolean isOfOurOwn(RuntimeException thrown) {
        String thrower = thrown.getStackTrace()[0].getClassName();
        return thrower.startsWith("DeltaUpdater") || thrower.startsWith("Model");
    }

    static void feedText(DeltaUpdater on, String text) {
        for (int i = 0; i < text.length(); i++) {
            on.feed(text.charAt(i), 1);
        }
    }

    static int storeText(DeltaUpdater on, String text) {
        feedText(on, text);
        return on.store();
    }

    /** An object whose versions are these texts. */
    static DeltaUpdater withVersions(String... texts) {
        DeltaUpdater made = new DeltaUpdater();
        for (String text : texts) {
            storeText(made, text);
        }
        return made;
    }

    static String textOf(DeltaUpdater of, int version) {
        StringBuilder text = new StringBuilder();
        for (int place = 0; place < of.length(version); place++) {
            text.append((char) of.byteAt(version, place));
        }
        return text.toString();
    }

    /** The instructions of a patch as a text: C(first place, length) and L(length, weak sum). */
    static String told(DeltaUpdater of, int patch) {
        StringBuilder text = new StringBuilder();
        for (int i = 0; i < of.instructions(patch); i++) {
            int kind = of.instruction(patch, i, 0);
            int first = of.instruction(patch, i, 1);
            int length = of.instruction(patch, i, 2);
            int sum = of.instruction(patch, i, 3);
            boolean ofItsKind = kind == 0 ? first >= 0 && sum == -1 : kind == 1 && first == -1;
            text.append(!ofItsKind ? "?" : kind == 0 ? "C(" + first + "," + length + ")"
                    : "L(" + length + "," + sum + ")");
        }
        return text.toString();
    }
}
