import java.io.IOException;
import java.nio.file.Files;
import java.nio.file.Path;
import java.util.Arrays;
import java.util.regex.Matcher;
import java.util.regex.Pattern;

/** TESTS.md names a test for each sentence: each test that it names is there. */
public final class SentencesTest {
    private static final Check CHECK = new Check("Sentences");
    private static final Pattern ROW = Pattern.compile("\\| .* \\| (.*) \\|");
    private static final Pattern NAME = Pattern.compile("(\\w+Test)\\.(\\w+)");

    public static void main(String[] args) throws IOException {
        for (String line : Files.readAllLines(Path.of("TESTS.md"))) {
            Matcher row = ROW.matcher(line);
            if (row.matches() && row.group(1).contains("Test.")) {
                for (String name : row.group(1).split(", ")) {
                    CHECK.due(name + " is there", true, isThere(name));
                }
            }
        }
        CHECK.end();
    }

    private static boolean isThere(String name) {
        Matcher parts = NAME.matcher(name);
        if (!parts.matches()) {
            return false;
        }
        try {
            return Arrays.stream(Class.forName(parts.group(1)).getDeclaredMethods())
                    .anyMatch(method -> method.getName().equals(parts.group(2)));
        } catch (ClassNotFoundException e) {
            return false;
        }
    }
}
