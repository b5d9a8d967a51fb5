import java.io.IOException;
import java.nio.file.DirectoryStream;
import java.nio.file.Files;
import java.nio.file.Path;
import java.util.ArrayList;
import java.util.List;
import java.util.regex.Matcher;
import java.util.regex.Pattern;

/** Tests quote the document: each quote stands there, and each of its sentences is quoted by some test. */
public final class DocumentTest {
    private static final Check CHECK = new Check();
    private static final Path DOCUMENT = Path.of("../shared/DOC.md");
    private static final Path TESTS = Path.of("src/test/java");
    private static final Pattern QUOTE = Pattern.compile("\\.words\\(((?:\\s*\\+?\\s*\"[^\"]*\")+)\\);");
    private static final Pattern PART = Pattern.compile("\"([^\"]*)\"");

    public static void main(String[] args) throws IOException {
        String document = plain(Files.readString(DOCUMENT));
        int first = document.indexOf("FINDINGS are answers");
        int last = document.indexOf("## Not promised");
        CHECK.that("the document has terms and promises", first > 0 && last > first);
        boolean[] quoted = new boolean[document.length()];
        for (String quote : quotes()) {
            int at = document.indexOf(quote);
            CHECK.that("the document says: " + quote, at >= 0);
            for (; at >= 0; at = document.indexOf(quote, at + 1)) {
                java.util.Arrays.fill(quoted, at, at + quote.length(), true);
            }
        }
        int from = first;
        for (Matcher end = Pattern.compile("[.:;](?= )").matcher(document); end.find();) {
            if (end.end() > first && end.end() <= last) {
                sentence(document, quoted, from, end.end());
                from = end.end() + 1;
            }
        }
        CHECK.end();
    }

    /** Signatures, heads and what the interface says ahead of calls promise nothing that could be quoted. */
    private static String plain(String text) {
        return text.replaceAll("(?m)^#+ Promise.*$", "").replaceAll("(?m)^Ahead of the calls.*$", "")
            .replaceAll("`[^`\n]*`:?", "").replaceAll("(?m)^```.*$", "").replaceAll("(?m)^\\d+\\. ",
                "").replaceAll("\\s+", " ");
    }

    private static List<String> quotes() throws IOException {
        List<String> quotes = new ArrayList<>();
        try (DirectoryStream<Path> files = Files.newDirectoryStream(TESTS, "*Test.java")) {
            for (Path file : files) {
                for (Matcher call = QUOTE.matcher(Files.readString(file)); call.find();) {
                    StringBuilder quote = new StringBuilder();
                    for (Matcher part = PART.matcher(call.group(1)); part.find();) {
                        quote.append(part.group(1));
                    }
                    quotes.add(quote.toString());
                }
            }
        }
        return quotes;
    }

    private static void sentence(String document, boolean[] quoted, int from, int to) {
        int letters = 0;
        for (int i = from; i < to; i++) {
            letters += quoted[i] ? 1 : 0;
        }
        CHECK.that("a test quotes: " + document.substring(from, to), letters > 0);
    }
}
