import java.nio.file.Files;
import java.nio.file.Path;
import java.util.List;
import java.util.Set;
import java.util.TreeSet;
import java.util.regex.Matcher;
import java.util.regex.Pattern;

/** What of LANGUAGE.md can be seen in the text of the file; it is run from the project's folder. */
public final class LanguageTest {
    private static final Checks CHECKS = new Checks("LanguageTest");
    private static final int MOST_LINES = 60;
    private static final int MOST_CLASSES = 12;

    public static void main(String[] args) throws Exception {
        String source = Files.readString(Path.of("src/main/java/QueryLoops.java"));
        String code = source.replaceAll("(?s)/\\*.*?\\*/", "").replaceAll("//[^\n]*", "");
        absent(code);
        exceptions(code);
        names(code);
        methodLengths(code);
        CHECKS.due("classes", count(code, "\\bclass\\s+\\w+") <= MOST_CLASSES, true);
        CHECKS.end();
    }

    private static void absent(String code) {
        List<String> words = List.of("import", "package", "->", "::", "synchronized", "finally", "assert", "catch",
                "try", "Exact", "System", "Object", "protected", "while", "double", "float");
        for (String word : words) {
            String pattern = word.matches("\\w+") ? "\\b\\w*" + word + "\\b" : Pattern.quote(word);
            CHECKS.due(word, count(code, pattern), 0);
        }
    }

    private static void exceptions(String code) {
        CHECKS.due("exceptions", count(code, "throw\\b"),
                count(code, "throw new (IllegalArgument|IllegalState|UnsupportedOperation)Exception\\(\"[^\"]*\"\\)"));
    }

    /** No method inside bears the name of a public one. */
    private static void names(String code) {
        Set<String> face = named(code, "\\n    public \\w+ (\\w+)\\(");
        Set<String> inside = named(code, "\\n        (?:private )?(?:static )?\\w+ (\\w+)\\([^)]*\\) \\{");
        inside.addAll(named(code, "\\n    private static \\w+ (\\w+)\\("));
        CHECKS.due("methods of the face", face.size(), 13);
        CHECKS.due("methods inside are seen", inside.size() > 50, true);
        inside.retainAll(face);
        CHECKS.due("names", inside, new TreeSet<String>());
    }

    private static Set<String> named(String code, String pattern) {
        Set<String> all = new TreeSet<>();
        Matcher m = Pattern.compile(pattern).matcher(code);
        while (m.find()) {
            all.add(m.group(1));
        }
        return all;
    }

    private static void methodLengths(String code) {
        int begin = -1;
        String[] lines = code.split("\n");
        for (int i = 0; i < lines.length; i++) {
            boolean heads = lines[i].matches(" {4}( {4})?[^ ].*\\).*\\{") && !lines[i].contains(" class ");
            begin = heads ? i : begin;
            if (begin >= 0 && lines[i].matches(" {4}( {4})?\\}")) {
                CHECKS.due("length of " + lines[begin].trim(), i - begin < MOST_LINES, true);
                begin = -1;
            }
        }
    }

    private static int count(String code, String pattern) {
        return (int) Pattern.compile(pattern).matcher(code).results().count();
    }
}
