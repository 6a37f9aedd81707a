import java.io.IOException;
import java.nio.file.Files;
import java.nio.file.Path;

/** The example of README.md: its lines stand below as they stand there, and answer as it says. */
public final class ReadmeTest {
    private static final Path README = Path.of("README.md");
    private static final Path HERE = Path.of("src/test/java/ReadmeTest.java");

    public static void main(String[] args) throws IOException {
        Checks checks = new Checks("readme");
        ReelReader reader = new ReelReader();
        reader.bits(21074, 16);            // the stream's mark
        reader.bits(0, 8);                 // one square by one, up to the next byte
        reader.bits(256, 32);              // a picture:
        reader.bits(1, 2);                 //   told by itself
        reader.bits(8, 5);                 //   its QUANT
        reader.bits(4095, 13);             //   one square of six flat blocks
        reader.bits(0, 4);                 //   up to the next byte
        reader.bits(439, 32);              // the end
        int shown = reader.read();         // 1; the tape is empty again
        int wrong = reader.wrong();        // NONE, or the first bit that is wrong
        int dot = reader.dot(0, 0, 5, 5);  // 128
        checks.due("read()", shown, 1);
        checks.due("wrong()", wrong, ReelReader.NONE);
        checks.due("dot(0, 0, 5, 5)", dot, 128);
        checks.due("the tape is empty again: bits(0, 1)", reader.bits(0, 1), 1);
        sameLines(checks);
        checks.finish();
    }

    private static void sameLines(Checks checks) throws IOException {
        String readme = Files.readString(README);
        int begin = readme.indexOf("```java\n") + "```java\n".length();
        String example = readme.substring(begin, readme.indexOf("```", begin));
        String here = Files.readString(HERE).replaceAll("(?m)^ {8}", "");
        checks.due("README.md's example stands here", !example.isEmpty() && here.contains(example), true);
    }
}
