import java.io.IOException;
import java.nio.file.DirectoryStream;
import java.nio.file.Files;
import java.nio.file.Path;
import java.util.regex.Matcher;
import java.util.regex.Pattern;

/** README.md says how the class is used: its example answers as it says, and no call, finding or test is left out. */
public final class ReadmeTest {
    private static final Path README = Path.of("README.md");
    private static final Path DOC = Path.of("../shared/DOC.md");
    private static final Path TESTS = Path.of("src/test/java");
    private static final Due T = new Due();

    public static void main(String[] args) throws IOException {
        String readme = Files.readString(README);
        String doc = Files.readString(DOC);
        example(readme);
        calls(readme, doc);
        findings(readme, doc);
        tests(readme);
        T.end();
    }

    private static void example(String readme) {
        Matcher block = Pattern.compile("(?s)```java\n(.*?)```").matcher(readme);
        int asked = 0;
        while (block.find()) {
            Run x = null;
            for (String line : block.group(1).split("\n")) {
                Matcher call = Pattern.compile("x\\.(\\w+\\(.*?\\)); +// (-?\\d+)(:.*)?").matcher(line);
                if (line.equals("FarDishes x = new FarDishes();")) {
                    x = new Run(null);
                } else if (x != null && call.matches()) {
                    T.due("README.md: " + call.group(1), x.ask(call.group(1)), Integer.parseInt(call.group(2)));
                    asked++;
                } else {
                    T.due("README.md has a line that isn't a call: '" + line + "'", line.isEmpty() ? 0 : 1, 0);
                }
            }
        }
        T.due("README.md has an example", asked > 20 ? 1 : 0, 1);
    }

    private static void calls(String readme, String doc) {
        Matcher m = Pattern.compile("^    public int (\\w+)\\(([^)]*)\\);$", Pattern.MULTILINE).matcher(doc);
        int calls = 0;
        while (m.find()) {
            String call = m.group(1) + "(" + m.group(2).replaceAll("(int|boolean) ", "") + ")";
            T.due("README.md tells " + call, readme.contains("| `" + call + "` | ") ? 1 : 0, 1);
            calls++;
        }
        T.due("calls of the document", calls, 46);
        T.due("calls of README.md", (int) Pattern.compile("^\\| `\\w+\\(", Pattern.MULTILINE).matcher(readme).results().count(), calls);
    }

    private static void findings(String readme, String doc) {
        Matcher m = Pattern.compile("(-100000(\\d)) ([A-Z]+)").matcher(doc);
        int findings = 0;
        while (m.find()) {
            int which = Integer.parseInt(m.group(2)) - 1;
            String row = "| " + m.group(1) + " | " + m.group(3) + " | " + which + " | ";
            T.due("README.md tells " + row, readme.contains(row) ? 1 : 0, 1);
            findings++;
        }
        T.due("findings of the document", findings, 7);
    }

    private static void tests(String readme) throws IOException {
        T.due("README.md says how the tests are run", readme.contains("`.ci/run`") ? 1 : 0, 1);
        try (DirectoryStream<Path> files = Files.newDirectoryStream(TESTS, "*Test.java")) {
            for (Path file : files) {
                String name = file.getFileName().toString().replace(".java", "");
                T.due("README.md tells of " + name, readme.contains("`" + name + "`") ? 1 : 0, 1);
            }
        }
    }
}
