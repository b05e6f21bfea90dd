import java.io.IOException;
import java.lang.reflect.Method;
import java.lang.reflect.Modifier;
import java.nio.file.DirectoryStream;
import java.nio.file.Files;
import java.nio.file.Path;
import java.util.Arrays;
import java.util.List;
import java.util.regex.Matcher;
import java.util.regex.Pattern;

/** README.md: its example answers what it says, and its tables name each call and each test. Run beside it. */
public final class ReadmeTest {
    private static final Pattern LINE =
            Pattern.compile("x\\.(\\w+)\\(([^)]*)\\);\\s*// (-?\\d+|nothing|throws \\w+): .+");

    private ReadmeTest() {
    }

    public static void main(String[] args) throws IOException {
        List<String> readme = Files.readAllLines(Path.of("README.md"));
        example(readme);
        calls(String.join("\n", readme));
        tests(String.join("\n", readme));
        Check.finish();
    }

    private static void example(List<String> readme) {
        int from = readme.indexOf("```java");
        Check.holds("README.md has an example", from >= 0);
        OnionCells x = new OnionCells();
        int called = 0;
        for (int i = from + 2; i < readme.size() && !readme.get(i).equals("```"); i++) {
            answersAsTold(x, readme.get(i));
            called++;
        }
        Check.holds("the example calls something", called > 0);
    }

    private static void answersAsTold(OnionCells x, String line) {
        Matcher told = LINE.matcher(line);
        if (!told.matches()) {
            Check.say("README.md: no call with an answer: " + line);
            return;
        }
        int[] arguments = Arrays.stream(told.group(2).split(", ")).mapToInt(Integer::parseInt).toArray();
        String got = Call.answer(x, told.group(1), arguments);
        // What a void call answers by reflection is null.
        String due = told.group(3).replace("nothing", "null").replace("throws ", "");
        Check.holds("README.md: " + line + " (it answered " + got + "): that", got.equals(due));
    }

    private static void calls(String readme) {
        for (Method each : OnionCells.class.getDeclaredMethods()) {
            if (Modifier.isPublic(each.getModifiers())) {
                Check.holds("README.md names " + each.getName(), readme.contains("| `" + each.getName() + "("));
            }
        }
    }

    private static void tests(String readme) throws IOException {
        try (DirectoryStream<Path> found = Files.newDirectoryStream(Path.of("src/test/java"), "*Test.java")) {
            for (Path each : found) {
                String name = each.getFileName().toString().replace(".java", "");
                Check.holds("README.md names " + name, readme.contains("| `" + name + "` |"));
            }
        }
    }
}
