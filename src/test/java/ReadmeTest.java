import java.io.ByteArrayOutputStream;
import java.io.IOException;
import java.io.PrintStream;
import java.lang.reflect.Method;
import java.lang.reflect.Modifier;
import java.nio.charset.StandardCharsets;
import java.nio.file.DirectoryStream;
import java.nio.file.Files;
import java.nio.file.Path;

/** README.md tells how to use the class and run its tests: its example runs as it says, and no call or test lacks. */
public final class ReadmeTest {
    private static final Path TESTS = Path.of("src/test/java");

    private ReadmeTest() {
    }

    public static void main(String[] args) throws IOException {
        String page = Files.readString(Path.of("README.md"));
        String example = Files.readString(TESTS.resolve("Example.java"));
        String program = example.substring(example.indexOf("public final class"));
        Check.due("the example on the page", page.contains("```java\n" + program + "```"), true);
        Check.due("what the example prints", page.contains("It prints:\n\n```text\n" + printed() + "```"), true);
        Check.due("how tests are run", page.contains("```sh\nbash .ci/run\n```"), true);
        for (Method call : SnowWalls.class.getDeclaredMethods()) {
            if (Modifier.isPublic(call.getModifiers())) {
                Check.due("the page names " + call.getName(), page.contains("`" + call.getName() + "`"), true);
            }
        }
        try (DirectoryStream<Path> files = Files.newDirectoryStream(TESTS, "*{Test,Sentences}.java")) {
            for (Path file : files) {
                String name = file.getFileName().toString().replace(".java", "");
                Check.due("the page names " + name, page.contains("`" + name + "`"), true);
            }
        }
        Check.done();
    }

    private static String printed() {
        PrintStream screen = System.out;
        ByteArrayOutputStream bytes = new ByteArrayOutputStream();
        System.setOut(new PrintStream(bytes, true, StandardCharsets.UTF_8));
        try {
            Example.main(new String[0]);
        } finally {
            System.setOut(screen);
        }
        return bytes.toString(StandardCharsets.UTF_8).replace(System.lineSeparator(), "\n");
    }
}
