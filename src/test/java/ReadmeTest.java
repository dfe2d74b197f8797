import java.io.IOException;
import java.nio.file.Files;
import java.nio.file.Path;
import java.util.ArrayList;
import java.util.List;
import java.util.regex.Matcher;
import java.util.regex.Pattern;

/** The examples of README.md: the class answers what they show, and they are the ones that stand here. */
final class ReadmeTest {
    private static final String A_WRITE_AND_A_READ = "write(0, 3, 7) = false; messageCount() = 1; messageKind(0) = 2; "
            + "messageLine(0) = 3; messageFrom(0) = 0; messageTo(0) = -1; deliver(0) = 1; state(0, 3) = 0; "
            + "settle(10) = 2; state(0, 3) = 3; write(0, 3, 8) = true; read(1, 3) = -1; settle(10) = 4; "
            + "latestRead(1) = 8; read(1, 3) = 8; state(0, 3) = 2; state(1, 3) = 1; owner(3) = 0; sharers(3) = 2; "
            + "memory(3) = 0; isInOrder(3) = true";
    private static final String A_RACE = "write(0, 5, 1) = false; settle(10) = 3; evict(0, 5) = 3; "
            + "victimValue(0, 5) = 1; write(1, 5, 2) = false; deliver(1) = 2; deliver(0) = 1; queued(5) = 1; "
            + "settle(20) = 4; lateWritebacks() = 1; memory(5) = 0; value(1, 5) = 2; victimValue(0, 5) = -1";
    private static final String A_FULL_CACHE = "setRoom(0, 1, 0) = true; "
            + "write(0, 2, 10000) = throws IllegalArgumentException; write(0, 2, 9) = false; "
            + "read(0, 3) = throws IllegalStateException; settle(10) = 3; "
            + "read(0, 3) = throws IllegalStateException; evict(0, 2) = throws IllegalStateException; "
            + "evict(0, 3) = throws NoSuchElementException; lineAt(0, 1) = throws NoSuchElementException; "
            + "read(4, 3) = throws IndexOutOfBoundsException; deliver(0) = throws IndexOutOfBoundsException; "
            + "read(0, 2) = 9";

    private static final Pattern BLOCK =
            Pattern.compile("```java\nCacheDirectory x = new CacheDirectory\\(\\);\n(.*?)```", Pattern.DOTALL);
    private static final Pattern ROW = Pattern.compile("x\\.(\\w+\\([-\\d, ]*\\)); +// ([^:]+)(: .+)?");

    private static final Runs runs = new Runs("ReadmeTest");
    private static final Checks checks = new Checks("ReadmeTest, what README.md shows");

    public static void main(String[] args) throws IOException {
        runs.hold("README.md: a write, and a read in another cache", A_WRITE_AND_A_READ);
        runs.hold("README.md: a race", A_RACE);
        runs.hold("README.md: a full cache", A_FULL_CACHE);
        checks.same("the examples", shown(Files.readString(Path.of("README.md"))),
                List.of(A_WRITE_AND_A_READ, A_RACE, A_FULL_CACHE));
        checks.end();
        runs.end();
    }

    private static List<String> shown(String page) {
        List<String> examples = new ArrayList<>();
        Matcher block = BLOCK.matcher(page);
        while (block.find()) {
            examples.add(asRun(block.group(1)));
        }
        return examples;
    }

    /** A row that is not read stays as it is, and so is told as a difference. */
    private static String asRun(String block) {
        List<String> steps = new ArrayList<>();
        for (String row : block.lines().toList()) {
            Matcher parts = ROW.matcher(row);
            steps.add(parts.matches() ? parts.group(1) + " = " + parts.group(2) : row);
        }
        return String.join("; ", steps);
    }
}
