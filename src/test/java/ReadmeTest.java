import java.io.IOException;
import java.lang.reflect.Method;
import java.lang.reflect.Modifier;
import java.net.URL;
import java.net.URLClassLoader;
import java.nio.file.Files;
import java.nio.file.Path;
import java.util.ArrayList;
import java.util.List;
import java.util.regex.Matcher;
import java.util.regex.Pattern;
import java.util.stream.Stream;
import javax.tools.ToolProvider;

/** README.md tells the truth: its example answers as it says, and it names all calls and tests. */
public final class ReadmeTest {
    /** A line of the example: a name that takes the answer (or none), the call, and its answer. */
    private static final Pattern LINE = Pattern.compile(
            "(?:int (\\w+) = )?(updater\\.\\w+\\(.*\\)); +// (-?[\\d.]+|true|false)(?:: .+)?");
    private static final String FIRST = "DeltaUpdater updater = new DeltaUpdater();";
    private static final Checks CHECKS = new Checks();

    public static void main(String[] args) throws Exception {
        String readme = Files.readString(Path.of("README.md"));
        namesAllCalls(readme);
        namesAllTests(readme);
        exampleAnswers(readme.split("```java\n|```")[1].split("\n"));
        CHECKS.end();
    }

    private static void namesAllCalls(String readme) {
        for (Method method : DeltaUpdater.class.getDeclaredMethods()) {
            if (Modifier.isPublic(method.getModifiers())) {
                named(readme, method.getName());
            }
        }
    }

    private static void namesAllTests(String readme) throws IOException {
        try (Stream<Path> files = Files.list(Path.of("src/test/java"))) {
            files.map(file -> file.getFileName().toString().replace(".java", ""))
                    .filter(name -> name.endsWith("Test")).forEach(name -> named(readme, name));
        }
    }

    private static void named(String readme, String name) {
        CHECKS.due("README.md names " + name, true, () -> readme.contains("`" + name + "`"));
    }

    private static void exampleAnswers(String[] lines) throws Exception {
        CHECKS.due("first line", FIRST, () -> lines[0]);
        List<String> want = new ArrayList<>();
        StringBuilder body = new StringBuilder(FIRST);
        for (int i = 1; i < lines.length; i++) {
            String line = lines[i];
            Matcher parts = LINE.matcher(line);
            boolean told = parts.matches();
            CHECKS.due("'" + line + "' is a call with its answer", true, () -> told);
            if (!told) {
                continue;
            }
            want.add(parts.group(2) + " " + parts.group(3));
            String name = parts.group(1) == null ? "answer" + i : parts.group(1);
            body.append("var ").append(name).append(" = ").append(parts.group(2)).append(";\n");
            body.append("all.add(\"").append(parts.group(2)).append(" \" + ").append(name)
                    .append(");\n");
        }
        List<?> got = answers(body.toString());
        for (int i = 0; i < want.size(); i++) {
            int call = i;
            CHECKS.due("call " + call + " of the example", want.get(call), () -> got.get(call));
        }
    }

    /** Compiles the example as a class of its own, and calls it. */
    private static List<?> answers(String body) throws Exception {
        Path folder = Files.createTempDirectory("readme");
        Path source = folder.resolve("Example.java");
        Files.writeString(source, "public final class Example {\n"
                + "public static java.util.List<String> answers() {\n"
                + "java.util.List<String> all = new java.util.ArrayList<>();\n"
                + body + "return all;\n}\n}\n");
        int failed = ToolProvider.getSystemJavaCompiler().run(null, null, null, "-cp",
                System.getProperty("java.class.path"), "-d", folder.toString(), source.toString());
        if (failed != 0) {
            throw new IllegalStateException("the example of README.md does not compile");
        }
        try (URLClassLoader loader = new URLClassLoader(new URL[] {folder.toUri().toURL()})) {
            return (List<?>) loader.loadClass("Example").getMethod("answers").invoke(null);
        } finally {
            Files.delete(folder.resolve("Example.class"));
            Files.delete(source);
            Files.delete(folder);
        }
    }
}
