import java.lang.reflect.Method;
import java.lang.reflect.Modifier;
import java.net.URL;
import java.net.URLClassLoader;
import java.nio.file.Files;
import java.nio.file.Path;
import java.util.ArrayList;
import java.util.List;
import java.util.TreeSet;
import java.util.regex.Matcher;
import java.util.regex.Pattern;
import java.util.stream.Stream;
import javax.tools.JavaCompiler;
import javax.tools.ToolProvider;

/**
 * README.md: its examples are made into one program, in which the last call of each line with an answer behind it
 * is told; what the class answers must be what stands there. It is run from the project's folder.
 */
public final class ReadmeTest {
    private static final Checks CHECKS = new Checks("ReadmeTest");
    private static final Pattern BLOCK = Pattern.compile("(?s)```java\n(.*?)```");
    private static final Pattern ANSWERED =
            Pattern.compile("^(.*; |\\s*)(x\\.\\w+\\([^;]*\\));\\s*// (true|false|-?\\d+)(:.*)?$");

    public static void main(String[] args) throws Exception {
        String readme = Files.readString(Path.of("README.md"));
        examples(readme);
        namesTheFace(readme);
        namesTheTests(readme);
        CHECKS.end();
    }

    private static void examples(String readme) throws Exception {
        List<String> want = new ArrayList<>();
        String source = program(readme, want);
        CHECKS.due("answers in README.md", want.size() > 20, true);
        List<String> got = ran(source);
        for (int i = 0; i < Math.max(want.size(), got.size()); i++) {
            CHECKS.due("example " + i, i < got.size() ? got.get(i) : "not reached", i < want.size() ? want.get(i) : "no answer");
        }
    }

    private static String program(String readme, List<String> want) {
        StringBuilder all = new StringBuilder("public final class ReadmeExample {\n"
                + "    public static void go(java.util.List<String> told) {\n");
        Matcher block = BLOCK.matcher(readme);
        while (block.find()) {
            for (String line : block.group(1).split("\n")) {
                Matcher m = ANSWERED.matcher(line);
                boolean answered = m.matches();
                CHECKS.due("'" + line + "' is understood", answered, line.contains("//"));
                if (answered) {
                    want.add(m.group(2) + " " + m.group(3));
                    line = m.group(1) + "told.add(\"" + m.group(2) + " \" + " + m.group(2) + ");";
                }
                all.append(line).append('\n');
            }
        }
        return all + "    }\n}\n";
    }

    private static List<String> ran(String source) throws Exception {
        Path folder = Files.createDirectories(Path.of("build", "readme"));
        Path file = folder.resolve("ReadmeExample.java");
        Files.writeString(file, source);
        JavaCompiler compiler = ToolProvider.getSystemJavaCompiler();
        int code = compiler.run(null, null, null, "-cp", System.getProperty("java.class.path"),
                "-d", folder.toString(), file.toString());
        CHECKS.due("javac of the examples", code, 0);
        List<String> told = new ArrayList<>();
        if (code == 0) {
            try (URLClassLoader loader = new URLClassLoader(new URL[] {folder.toUri().toURL()})) {
                loader.loadClass("ReadmeExample").getMethod("go", List.class).invoke(null, told);
            }
        }
        return told;
    }

    private static void namesTheFace(String readme) {
        for (Method m : QueryLoops.class.getDeclaredMethods()) {
            if (Modifier.isPublic(m.getModifiers())) {
                CHECKS.due("an example with " + m.getName(), readme.contains("x." + m.getName() + "("), true);
            }
        }
        for (Class<?> inside : QueryLoops.class.getDeclaredClasses()) {
            String name = inside.getSimpleName();
            CHECKS.due("how it is built: " + name, readme.contains("`" + name + "`"), true);
        }
    }

    private static void namesTheTests(String readme) throws Exception {
        CHECKS.due("how the tests are run", readme.contains("\n.ci/run\n"), true);
        TreeSet<String> tests = new TreeSet<>();
        try (Stream<Path> files = Files.list(Path.of("src/test/java"))) {
            files.map(f -> f.getFileName().toString()).filter(f -> f.endsWith("Test.java"))
                    .forEach(f -> tests.add(f.replace(".java", "")));
        }
        TreeSet<String> named = new TreeSet<>();
        Matcher m = Pattern.compile("\n\\| `(\\w+Test)` \\|").matcher(readme);
        while (m.find()) {
            named.add(m.group(1));
        }
        CHECKS.due("tests in README.md", named, tests);
    }
}
