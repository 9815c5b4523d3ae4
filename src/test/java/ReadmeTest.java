import java.io.ByteArrayOutputStream;
import java.io.IOException;
import java.io.PrintStream;
import java.nio.charset.StandardCharsets;
import java.nio.file.Files;
import java.nio.file.Path;

/** README.md shows Example.java as it is, and what it prints. */
public final class ReadmeTest {
    private static final Check CHECK = new Check();

    public static void main(String[] args) throws IOException {
        String readme = Files.readString(Path.of("README.md"));
        CHECK.same("the example", Files.readString(Path.of("src/test/java/Example.java")), block(readme, "java"));
        CHECK.same("what it prints", printed(), block(readme, "text"));
        CHECK.end("ReadmeTest");
    }

    /** The first block of a kind; an empty text if there is none. */
    private static String block(String readme, String kind) {
        String head = "```" + kind + "\n";
        int begin = readme.indexOf(head);
        int end = begin < 0 ? -1 : readme.indexOf("```", begin + head.length());
        return end < 0 ? "" : readme.substring(begin + head.length(), end);
    }

    private static String printed() {
        PrintStream console = System.out;
        ByteArrayOutputStream bytes = new ByteArrayOutputStream();
        System.setOut(new PrintStream(bytes, true, StandardCharsets.US_ASCII));
        try {
            Example.main(new String[0]);
        } finally {
            System.setOut(console);
        }
        return bytes.toString(StandardCharsets.US_ASCII).replace("\r\n", "\n");
    }
}
