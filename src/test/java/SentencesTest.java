import java.io.IOException;
import java.nio.file.DirectoryStream;
import java.nio.file.Files;
import java.nio.file.Path;
import java.util.ArrayList;
import java.util.List;
import java.util.regex.Matcher;
import java.util.regex.Pattern;

/**
 * Each sentence of the document's terms and promises has a test that quotes it, and each quote
 * stands in the document. It is run, as all tests are, from the project's directory.
 */
public final class SentencesTest {
    private static final Path DOCUMENT = Path.of("..", "shared", "DOC.md");
    private static final Path TESTS = Path.of("src", "test", "java");
    private static final Pattern QUOTE = Pattern.compile("due\\.says\\(\"([^\"]*)\"\\)");

    public static void main(String[] args) throws IOException {
        if (!Files.exists(DOCUMENT)) {
            System.out.println("sentences: " + DOCUMENT + " is not there, nothing to compare with");
            return;
        }
        String document = Files.readString(DOCUMENT).replaceAll("\\s+", " ");
        List<String> quotes = quotes();
        int wrong = 0;
        for (String quote : quotes) {
            if (!document.contains(quote)) {
                System.out.println("sentences: not in the document: " + quote);
                wrong++;
            }
        }
        for (String sentence : sentences()) {
            if (!isQuoted(sentence, quotes)) {
                System.out.println("sentences: no test quotes: " + sentence);
                wrong++;
            }
        }
        if (wrong != 0) {
            System.exit(1);
        }
    }

    private static List<String> quotes() throws IOException {
        List<String> quotes = new ArrayList<>();
        try (DirectoryStream<Path> files = Files.newDirectoryStream(TESTS, "*Test.java")) {
            for (Path file : files) {
                Matcher matcher = QUOTE.matcher(Files.readString(file));
                while (matcher.find()) {
                    quotes.add(matcher.group(1));
                }
            }
        }
        return quotes;
    }

    private static List<String> sentences() throws IOException {
        String text = Files.readString(DOCUMENT);
        text = text.substring(text.indexOf("## Terms"), text.indexOf("## Not promised"));
        List<String> sentences = new ArrayList<>();
        for (String paragraph : text.split("\n\n")) {
            if (paragraph.startsWith("#")) {
                continue;
            }
            String plain = paragraph.replaceAll("\\s+", " ").replaceAll("^`[^`]*`: ", "").trim();
            for (String sentence : plain.split("(?<=[.)]) (?=[A-Z(])")) {
                if (sentence.contains(" ")) {
                    sentences.add(sentence);
                }
            }
        }
        return sentences;
    }

    private static boolean isQuoted(String sentence, List<String> quotes) {
        for (String quote : quotes) {
            if (sentence.contains(quote) || quote.contains(sentence)) {
                return true;
            }
        }
        return false;
    }
}
