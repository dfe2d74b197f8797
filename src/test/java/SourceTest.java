import java.io.IOException;
import java.nio.file.Files;
import java.nio.file.Path;
import java.util.List;
import java.util.regex.Matcher;
import java.util.regex.Pattern;

/** The rules of LANGUAGE.md that can be seen in the text of the class. Runs in the project's folder. */
final class SourceTest {
    private static final Checks checks = new Checks("SourceTest");

    private static final List<String> IMPORTS =
            List.of("import java.util.ArrayList;", "import java.util.NoSuchElementException;");
    private static final List<String> FORBIDDEN = List.of("->", "::", "static {", "synchronized", "assert ",
            "finally", "catch", "try ", "public static", "protected", "package ", "var ", ".equals(", "System.");
    private static final Pattern METHOD = Pattern.compile(
            "( {4}| {8})(?! |if |for |while |switch )[\\w<>\\[\\] ]+\\(([^()]*)\\)( throws .*)?( \\{)?");
    private static final int MOST_METHOD_LINES = 60;
    private static final int MOST_PARAMETERS = 7;
    private static final int MOST_CLASSES = 12;

    public static void main(String[] args) throws IOException {
        String text = Files.readString(Path.of("src/main/java/CacheDirectory.java"));
        checks.same("the imports", text.lines().filter(l -> l.startsWith("import ")).toList(), IMPORTS);
        checks.same("all signs are ASCII", text.chars().allMatch(c -> c < 128), true);
        String code = text.replaceAll("(?s)/\\*.*?\\*/", "").replaceAll("\"[^\"]*\"", "\"\"");
        for (String part : FORBIDDEN) {
            checks.same("holds " + part, code.contains(part), false);
        }
        long classes = code.lines().filter(l -> l.matches(" *(public|private static) final class .*")).count();
        checks.same("few classes", classes <= MOST_CLASSES, true);
        checkMethods(code);
        checks.end();
    }

    private static void checkMethods(String code) {
        List<String> lines = code.lines().toList();
        int found = 0;
        for (int i = 0; i < lines.size(); i++) {
            Matcher method = METHOD.matcher(lines.get(i));
            if (method.matches()) {
                found++;
                int length = lines.subList(i, lines.size()).indexOf(method.group(1) + "}") + 1;
                checks.same(lines.get(i) + " is short", length > 0 && length <= MOST_METHOD_LINES, true);
                int parameters = method.group(2).isBlank() ? 0 : method.group(2).split(",").length;
                checks.same(lines.get(i) + " takes few", parameters <= MOST_PARAMETERS, true);
            }
        }
        checks.same("all methods are found", found >= countOfMethods(), true);
    }

    private static int countOfMethods() {
        int count = CacheDirectory.class.getDeclaredMethods().length;
        for (Class<?> inside : CacheDirectory.class.getDeclaredClasses()) {
            count += inside.getDeclaredMethods().length;
        }
        return count;
    }
}
