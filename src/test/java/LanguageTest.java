import java.lang.reflect.Field;
import java.lang.reflect.Modifier;
import java.nio.file.Files;
import java.nio.file.Path;
import java.util.ArrayList;
import java.util.List;
import java.util.Set;
import java.util.TreeSet;
import java.util.regex.Matcher;
import java.util.regex.Pattern;

/** What of LANGUAGE.md can be seen in the text of the file; it is run from the project's folder. */
public final class LanguageTest {
    private static final Checks CHECKS = new Checks("LanguageTest");
    private static final int MOST_LINES = 60;
    private static final int MOST_CLASSES = 12;
    private static final int MOST_PARAMETERS = 7;
    private static final int MOST_FIELDS = 20;

    public static void main(String[] args) throws Exception {
        String source = Files.readString(Path.of("src/main/java/QueryLoops.java"));
        String code = source.replaceAll("(?s)/\\*.*?\\*/", "").replaceAll("//[^\n]*", "");
        absent(code);
        exceptions(code);
        names(code);
        methodLengths(code);
        library(code);
        parameters(code);
        fields();
        CHECKS.due("classes", count(code, "\\bclass\\s+\\w+") <= MOST_CLASSES, true);
        CHECKS.end();
    }

    private static void absent(String code) {
        List<String> words = List.of("import", "package", "->", "::", "synchronized", "finally", "assert", "catch",
                "try", "Exact", "System", "Object", "protected", "while", "double", "float");
        for (String word : words) {
            String pattern = word.matches("\\w+") ? "\\b\\w*" + word + "\\b" : Pattern.quote(word);
            CHECKS.due(word, count(code, pattern), 0);
        }
    }

    private static void exceptions(String code) {
        CHECKS.due("exceptions", count(code, "throw\\b"),
                count(code, "throw new (IllegalArgument|IllegalState|UnsupportedOperation)Exception\\(\"[^\"]*\"\\)"));
    }

    /** No method inside bears the name of a public one. */
    private static void names(String code) {
        Set<String> face = named(code, "\\n    public \\w+ (\\w+)\\(");
        Set<String> inside = named(code, "\\n        (?:private )?(?:static )?\\w+ (\\w+)\\([^)]*\\) \\{");
        inside.addAll(named(code, "\\n    private static \\w+ (\\w+)\\("));
        CHECKS.due("methods of the face", face.size(), 13);
        CHECKS.due("methods inside are seen", inside.size() > 50, true);
        inside.retainAll(face);
        CHECKS.due("names", inside, new TreeSet<String>());
    }

    private static Set<String> named(String code, String pattern) {
        Set<String> all = new TreeSet<>();
        Matcher m = Pattern.compile(pattern).matcher(code);
        while (m.find()) {
            all.add(m.group(1));
        }
        return all;
    }

    private static void methodLengths(String code) {
        int begin = -1;
        String[] lines = code.split("\n");
        for (int i = 0; i < lines.length; i++) {
            boolean heads = lines[i].matches(" {4}( {4})?[^ ].*\\).*\\{") && !lines[i].contains(" class ");
            begin = heads ? i : begin;
            if (begin >= 0 && lines[i].matches(" {4}( {4})?\\}")) {
                CHECKS.due("length of " + lines[begin].trim(), i - begin < MOST_LINES, true);
                begin = -1;
            }
        }
    }

    /** What is called of the library by its name, and on a String, the only object of it that the class has. */
    private static void library(String code) {
        Set<String> called = named(code, "\\b((?:Math|Integer|Long|Arrays|List|String|Character)\\.\\w+)");
        CHECKS.due("library", called, new TreeSet<>(Set.of("Integer.compare", "Math.max", "Math.min")));
        CHECKS.due("on texts", named(code, "(?:\\bword|\")\\.(\\w+)\\("), new TreeSet<>(Set.of("charAt", "indexOf", "length")));
        CHECKS.due("no text but constants and one parameter", count(code, "\\bString\\b"), 1);
    }

    private static void parameters(String code) {
        Matcher m = Pattern.compile("\\n {4}(?: {4})?[^ \\n][^\\n]*?(\\w+)\\(([^()]*)\\)[^\\n;]*\\{").matcher(code);
        int methods = 0;
        while (m.find()) {
            methods++;
            int parameters = m.group(2).isBlank() ? 0 : m.group(2).split(",").length;
            CHECKS.due("parameters of " + m.group(1), parameters <= MOST_PARAMETERS, true);
        }
        CHECKS.due("methods are seen", methods > 80, true);
    }

    private static void fields() {
        List<Class<?>> all = new ArrayList<>(List.of(QueryLoops.class.getDeclaredClasses()));
        all.add(QueryLoops.class);
        for (Class<?> c : all) {
            int fields = 0;
            for (Field f : c.getDeclaredFields()) {
                boolean ofClass = Modifier.isStatic(f.getModifiers());
                fields += ofClass ? 0 : 1;
                CHECKS.due(f + " is a constant", !ofClass || Modifier.isFinal(f.getModifiers()) && f.getType() == int.class, true);
            }
            CHECKS.due("fields of " + c, fields <= MOST_FIELDS, true);
        }
    }

    private static int count(String code, String pattern) {
        return (int) Pattern.compile(pattern).matcher(code).results().count();
    }
}
