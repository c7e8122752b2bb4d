import java.io.IOException;
import java.nio.file.Files;
import java.nio.file.Path;
import java.util.List;
import java.util.stream.Collectors;
import java.util.stream.Stream;

/** Every promise of the document has boundary tests that bear its number: promiseNN_what. */
public final class IndexTest {
    public static void main(String[] args) throws IOException {
        String tests = boundsTests().stream().map(IndexTest::textOf).collect(Collectors.joining());
        for (int n = 1; n <= 40; n++) {
            String number = n < 10 ? "0" + n : "" + n;
            Check.holds("promise " + n + " has a test",
                tests.contains("private static void promise" + number + "_"));
        }
        Check.finish();
    }

    private static List<Path> boundsTests() throws IOException {
        try (Stream<Path> files = Files.list(Path.of("src/test/java"))) {
            return files.filter(f -> f.getFileName().toString().startsWith("Bounds")).sorted()
                .collect(Collectors.toList());
        }
    }

    private static String textOf(Path file) {
        try {
            return Files.readString(file);
        } catch (IOException e) {
            throw new IllegalStateException(e);
        }
    }
}
