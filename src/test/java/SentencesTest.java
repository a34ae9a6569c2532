import java.io.IOException;
import java.nio.charset.StandardCharsets;
import java.nio.file.Files;
import java.nio.file.Path;
import java.util.ArrayList;
import java.util.List;
import java.util.regex.Matcher;
import java.util.regex.Pattern;
import java.util.stream.Stream;

/** Each part and each promise of the document has a sentence that a test of the project quotes. */
public final class SentencesTest {
    private static final Check CHECK = new Check();

    public static void main(String[] args) throws IOException {
        String document = Check.document();
        List<String> quotes = quotes();
        List<String> parts = new ArrayList<>();
        for (int n = 1; n <= 33; n++) {
            parts.add("## Promise " + n + ":");
        }
        parts.add("## Not promised");
        for (int n = 0; n < 33; n++) {
            isQuoted(document, quotes, parts.get(n), parts.get(n + 1));
        }
        isQuoted(document, quotes, "## Terms", "==== 2.");
        isQuoted(document, quotes, "==== 2.", "(b) each SOCKET");
        isQuoted(document, quotes, "(b) each SOCKET", "(c) ROUTERS");
        isQuoted(document, quotes, "(c) ROUTERS", "An ORDER is done");
        isQuoted(document, quotes, "An ORDER is done", "ENDS by number");
        isQuoted(document, quotes, "ENDS by number", "(d) each SOCKET");
        isQuoted(document, quotes, "(d) each SOCKET", "==== 3.");
        isQuoted(document, quotes, "==== 3.", "==== 4.");
        isQuoted(document, quotes, "==== 4.", "WAY from an END");
        isQuoted(document, quotes, "WAY from an END", "THE LOG (");
        isQuoted(document, quotes, "THE LOG (", "THE IMAGE:");
        isQuoted(document, quotes, "THE IMAGE:", "The constants:");
        CHECK.finish();
    }

    private static void isQuoted(String document, List<String> quotes, String start, String end) {
        int from = document.indexOf(start);
        int to = document.indexOf(end, from + 1);
        CHECK.due("the document has " + start + " .. " + end, true, from >= 0 && to > from);
        if (from < 0 || to < from) {
            return;
        }
        String part = document.substring(from, to);
        CHECK.due("a test quotes " + start, true, quotes.stream().anyMatch(part::contains));
    }

    private static List<String> quotes() throws IOException {
        List<String> quotes = new ArrayList<>();
        try (Stream<Path> files = Files.list(Path.of("src/test/java"))) {
            for (Path file : files.sorted().toList()) {
                Matcher matcher = Pattern.compile("CHECK\\.sentence\\(\"((?:[^\"\\\\]|\\\\.)*)\"\\)")
                        .matcher(Files.readString(file, StandardCharsets.UTF_8));
                while (matcher.find()) {
                    quotes.add(matcher.group(1).replace("\\\"", "\""));
                }
            }
        }
        return quotes;
    }
}
