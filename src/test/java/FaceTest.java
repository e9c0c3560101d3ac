import java.io.IOException;
import java.lang.reflect.Constructor;
import java.lang.reflect.Field;
import java.lang.reflect.Method;
import java.lang.reflect.Modifier;
import java.nio.file.Files;
import java.nio.file.Path;
import java.util.ArrayList;
import java.util.Arrays;
import java.util.List;
import java.util.TreeSet;

/** The class has the document's public face, and nothing else that others see (LANGUAGE.md 1, 5). */
public final class FaceTest {
    private static final String INDEX = " throws IndexOutOfBoundsException";
    private static final String ARGUMENT = ", IllegalArgumentException";
    private static final String STATE = ", IllegalStateException";
    private static final String[] FACE = {
        "int feed(long,int) throws IllegalArgumentException, IllegalStateException",
        "int store() throws IllegalStateException",
        "int versions()",
        "int length(int)" + INDEX,
        "int byteAt(int,int)" + INDEX,
        "boolean areSame(int,int)" + INDEX,
        "int weakSum(int,int,int)" + INDEX + ARGUMENT,
        "int collisions(int,int)" + INDEX + ARGUMENT,
        "int differentBlocks(int,int)" + INDEX + ARGUMENT,
        "int difference(int,int,int)" + INDEX + ARGUMENT + STATE,
        "int compose(int,int)" + INDEX + ARGUMENT + STATE,
        "int patches()",
        "int instructions(int)" + INDEX,
        "int instruction(int,int,int)" + INDEX,
        "int cost(int)" + INDEX,
        "double newness(int)" + INDEX,
        "int apply(int,int)" + INDEX + ARGUMENT + STATE,
        "int steps(int,int)" + INDEX,
        "int leastCost(int,int)" + INDEX,
        "int installVersion(int)" + INDEX,
        "int installPatch(int)" + INDEX + ARGUMENT,
        "int rollBack() throws IllegalStateException",
        "boolean isInstalled(int)" + INDEX,
        "int installedLength()",
        "long digest()",
    };
    private static final Checks CHECKS = new Checks();

    public static void main(String[] args) throws IOException {
        Class<?> face = DeltaUpdater.class;
        CHECKS.due("class", "public final", () -> Modifier.toString(face.getModifiers()));
        CHECKS.due("methods", new TreeSet<>(Arrays.asList(FACE)), FaceTest::openMethods);
        CHECKS.due("private methods of a public name", List.of(), FaceTest::doubleNames);
        for (Field field : face.getDeclaredFields()) {
            int modifiers = field.getModifiers();
            CHECKS.due(field + " private", true, () -> Modifier.isPrivate(modifiers));
            CHECKS.due(field + " final where static", true,
                    () -> !Modifier.isStatic(modifiers) || Modifier.isFinal(modifiers));
        }
        CHECKS.due("constructors", "[public DeltaUpdater()]",
                () -> Arrays.toString(face.getDeclaredConstructors()));
        for (Constructor<?> constructor : face.getDeclaredConstructors()) {
            CHECKS.due("thrown by " + constructor, 0, () -> constructor.getExceptionTypes().length);
        }
        asTheDocumentWritesIt();
        CHECKS.end();
    }

    /** Each line of the document's face stands in the source, in its order, parameters and all. */
    private static void asTheDocumentWritesIt() throws IOException {
        String document = Files.readString(Path.of("../shared/DOC.md"));
        String source = Files.readString(Path.of("src/main/java/DeltaUpdater.java"));
        String written = source.replaceAll("\\s+", " ");
        int methods = 0;
        int at = 0;
        for (String line : document.split("```")[1].split("\n")) {
            if (!line.startsWith("    public ")) {
                continue;
            }
            methods++;
            int behind = written.indexOf(line.trim().replace(";", " {"), at);
            CHECKS.due(line.trim() + " stands in its place", true, () -> behind >= 0);
            at = Math.max(at, behind);
        }
        int all = methods;
        CHECKS.due("the constructor and the methods", FACE.length + 1, () -> all);
    }

    private static TreeSet<String> openMethods() {
        TreeSet<String> open = new TreeSet<>();
        for (Method method : DeltaUpdater.class.getDeclaredMethods()) {
            if (!Modifier.isPrivate(method.getModifiers())) {
                open.add(told(method));
            }
        }
        return open;
    }

    private static String told(Method method) {
        List<String> parameters = new ArrayList<>();
        for (Class<?> type : method.getParameterTypes()) {
            parameters.add(type.getSimpleName());
        }
        List<String> thrown = new ArrayList<>();
        for (Class<?> type : method.getExceptionTypes()) {
            thrown.add(type.getSimpleName());
        }
        String modifiers = Modifier.toString(method.getModifiers()).replace("public", "");
        return modifiers + method.getReturnType() + " " + method.getName()
                + "(" + String.join(",", parameters) + ")"
                + (thrown.isEmpty() ? "" : " throws " + String.join(", ", thrown));
    }

    private static List<String> doubleNames() {
        TreeSet<String> open = new TreeSet<>();
        for (Method method : DeltaUpdater.class.getMethods()) {
            open.add(method.getName());
        }
        List<String> doubled = new ArrayList<>();
        List<Class<?>> classes = new ArrayList<>(Arrays.asList(
                DeltaUpdater.class.getDeclaredClasses()));
        classes.add(DeltaUpdater.class);
        for (Class<?> holder : classes) {
            for (Method method : holder.getDeclaredMethods()) {
                if (!Modifier.isPublic(method.getModifiers()) && open.contains(method.getName())) {
                    doubled.add(method.toString());
                }
            }
        }
        return doubled;
    }
}
