import java.io.ByteArrayOutputStream;
import java.io.IOException;
import java.io.PrintStream;
import java.nio.charset.StandardCharsets;
import java.nio.file.Files;
import java.nio.file.Path;

/** README.md says how to use the class: its example is ReadmeExample word for word, and says what it prints. */
final class ReadmeTest {
    public static void main(String[] args) throws IOException {
        Check.sentence("README.md", "How to use it");
        String readme = Files.readString(Path.of("README.md"));
        String example = Files.readString(Path.of("src/test/java/ReadmeExample.java"));
        Check.due("the example stands there", true, readme.contains("```java\n" + example + "```\n"));
        Check.due("what it prints stands there", true, readme.contains("```text\n" + printed() + "```\n"));
        for (String call : new String[] {"SceneText()", "feed(a, b, c, d, e)", "end(n)", "size()", "load()",
            "error(what)", "count(what)", "about(what, k, which)", "at(what, k, list, i)", "view(i)", "NONE"}) {
            Check.due(call + " stands there", true, readme.contains("| `" + call + "` |"));
        }
        Check.finish();
    }

    private static String printed() {
        PrintStream before = System.out;
        ByteArrayOutputStream bytes = new ByteArrayOutputStream();
        System.setOut(new PrintStream(bytes, true, StandardCharsets.UTF_8));
        ReadmeExample.main(new String[0]);
        System.setOut(before);
        return bytes.toString(StandardCharsets.UTF_8).replace(System.lineSeparator(), "\n");
    }
}
