import java.io.IOException;
import java.nio.file.Files;
import java.nio.file.Path;
import java.util.List;
import java.util.regex.Matcher;
import java.util.regex.Pattern;

/** EDGES.md quotes the document as it is, and names tests that are there and called. */
public final class EdgesTableTest {
    private static final Pattern NAME = Pattern.compile("`(\\w+)\\.(\\w+)`");

    public static void main(String[] args) throws IOException {
        String document = plain(Files.readString(Path.of("../shared/DOC.md")));
        List<String> lines = Files.readAllLines(Path.of("EDGES.md"));
        int rows = 0;
        for (String line : lines) {
            String[] cells = line.split("\\|");
            if (cells.length == 3 && cells[2].contains("`")) {
                rows++;
                String sentence = plain(cells[1]);
                Check.isTrue("the document says: " + sentence, document.contains(sentence));
                testsOf(sentence, cells[2]);
            }
        }
        Check.isTrue("there are rows", rows > 100);
        Check.end();
    }

    private static String plain(String text) {
        return text.replaceAll("\\s+", " ").strip();
    }

    private static void testsOf(String sentence, String cell) throws IOException {
        Matcher names = NAME.matcher(cell);
        int many = 0;
        while (names.find()) {
            many++;
            Path file = Path.of("src/test/java", names.group(1) + ".java");
            String source = Files.exists(file) ? Files.readString(file) : "";
            String method = names.group(2);
            Check.isTrue(names.group() + " is there", source.contains("private static void " + method + "("));
            Check.isTrue(names.group() + " is called", source.contains("        " + method + "("));
        }
        Check.isTrue("a test of: " + sentence, many > 0);
    }
}
