import java.io.IOException;
import java.lang.reflect.Field;
import java.lang.reflect.Method;
import java.lang.reflect.Modifier;
import java.net.URL;
import java.net.URLClassLoader;
import java.nio.file.Files;
import java.nio.file.Path;
import java.util.List;
import java.util.Set;
import java.util.TreeSet;
import java.util.regex.Matcher;
import java.util.regex.Pattern;
import java.util.stream.Collectors;
import java.util.stream.Stream;
import javax.tools.ToolProvider;

/** What README.md says is so: its example answers what stands behind each call, its files are there, no call is left out. */
public final class ReadmeTest {
    private static final Pattern ANSWER = Pattern.compile("(?m)^(x\\.\\w+\\(.*?\\));\\s*// (-?\\d+)\\b.*$");
    private static final Pattern NAME = Pattern.compile("`([A-Za-z0-9_]+)`");

    public static void main(String[] args) throws Exception {
        Path program = Path.of(System.getProperty("wellknots.source", "src/main/java/WellKnots.java")).toAbsolutePath();
        Path root = program.getParent().getParent().getParent().getParent();
        String readme = Files.readString(root.resolve("README.md"));
        example(readme);
        calls(readme);
        constants(readme);
        parts(readme);
        files(readme, root);
        Checks.end("ReadmeTest");
    }

    private static void ok(String words, boolean holds) {
        Checks.due(words, holds ? 1 : 0, 1);
    }

    /** The example is compiled as it stands, each answer that is told beside a call made into a check. */
    private static void example(String readme) throws Exception {
        Matcher block = Pattern.compile("```java\n(.*?)```", Pattern.DOTALL).matcher(readme);
        ok("README.md has an example", block.find());
        Matcher answers = ANSWER.matcher(block.group(1));
        int told = (int) answers.results().count();
        ok("the example tells answers", told > 5);
        String code = answers.reset().replaceAll("say(\"$1\", $1, $2);");
        Path work = Files.createTempDirectory("readme");
        try {
            Path file = Files.writeString(work.resolve("Example.java"), "public final class Example {\n"
                + "static final java.util.List<Object[]> SAID = new java.util.ArrayList<>();\n"
                + "static void say(String call, long got, long want) { SAID.add(new Object[] {call, got, want}); }\n"
                + "public static java.util.List<Object[]> run() {\n" + code + "return SAID;\n}\n}\n");
            int answer = ToolProvider.getSystemJavaCompiler().run(null, null, null, "-cp",
                System.getProperty("java.class.path"), "-d", work.toString(), file.toString());
            Checks.due("javac of the example", answer, 0);
            lookAt(work, told);
        } finally {
            try (Stream<Path> made = Files.list(work)) {
                for (Path path : made.collect(Collectors.toList())) {
                    Files.delete(path);
                }
            }
            Files.delete(work);
        }
    }

    private static void lookAt(Path work, int told) throws Exception {
        try (URLClassLoader loader = new URLClassLoader(new URL[] {work.toUri().toURL()})) {
            List<?> said = (List<?>) loader.loadClass("Example").getMethod("run").invoke(null);
            Checks.due("answers of the example", said.size(), told);
            for (Object one : said) {
                Object[] row = (Object[]) one;
                Checks.due("README.md: " + row[0], (Long) row[1], (Long) row[2]);
            }
        }
    }

    private static Set<String> named(String text) {
        return NAME.matcher(text).results().map(m -> m.group(1)).collect(Collectors.toCollection(TreeSet::new));
    }

    private static void calls(String readme) {
        Set<String> named = named(section(readme, "## Use"));
        for (Method method : WellKnots.class.getDeclaredMethods()) {
            if (Modifier.isPublic(method.getModifiers())) {
                ok("README.md names " + method.getName(), named.contains(method.getName()));
            }
        }
    }

    private static void constants(String readme) throws IllegalAccessException {
        for (Field field : WellKnots.class.getFields()) {
            ok("README.md says what " + field.getName() + " is",
                readme.contains("`" + field.getName() + "` (" + field.getInt(null)));
        }
    }

    private static void parts(String readme) {
        Set<String> named = named(section(readme, "## Files"));
        for (Class<?> part : WellKnots.class.getDeclaredClasses()) {
            ok("README.md names the part " + part.getSimpleName(), named.contains(part.getSimpleName()));
        }
    }

    private static void files(String readme, Path root) throws IOException {
        Set<String> there = new TreeSet<>();
        try (Stream<Path> files = Files.list(root.resolve("src/test/java"))) {
            files.forEach(f -> there.add(f.getFileName().toString().replace(".java", "")));
        }
        Set<String> parts = Stream.of(WellKnots.class.getDeclaredClasses()).map(Class::getSimpleName)
            .collect(Collectors.toSet());
        Set<String> named = named(section(readme, "## Files"));
        named.removeAll(parts);
        Checks.due("files named in README.md, " + named + ", are those there, " + there, named.equals(there) ? 1 : 0, 1);
        ok("src/main/java/WellKnots.java is there", Files.exists(root.resolve("src/main/java/WellKnots.java")));
        ok(".ci/run is there, and runs", Files.isExecutable(root.resolve(".ci/run")));
    }

    private static String section(String readme, String head) {
        int from = readme.indexOf(head);
        ok("README.md has a section " + head, from >= 0);
        int to = readme.indexOf("\n## ", from + 1);
        return readme.substring(from, to < 0 ? readme.length() : to);
    }
}
