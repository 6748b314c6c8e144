import java.io.IOException;
import java.nio.file.DirectoryStream;
import java.nio.file.Files;
import java.nio.file.Path;
import java.util.ArrayList;
import java.util.HashSet;
import java.util.List;
import java.util.Set;
import java.util.regex.Matcher;
import java.util.regex.Pattern;

/**
 * Each sentence of the document is quoted whole by a test, so that a sentence that is new or has changed is seen. What a
 * promise says is quoted behind the name of its call, as in "begin: columns: 2 to 4".
 */
public final class QuotesTest {
    private static final Path DOCUMENT = Path.of("..", "shared", "DOC.md");
    private static final Pattern QUOTE = Pattern.compile("Checks\\.sentence\\(((?:\\s*\"[^\"]*\"\\s*\\+?)+)\\)");
    private static final Pattern SIGNATURE = Pattern.compile("(?:\\w+ )?\\w+\\([^)]*\\)(?: throws [\\w, ]+)?: (.*)");
    private static final Pattern BETWEEN_SENTENCES = Pattern.compile("(?<=\\.|\\.\\)) +(?=[A-Z(])");

    // Words that stand ahead of the sentences on a thing, and say nothing of it.
    private static final Set<String> HEADS = Set.of("Credits.", "A tick.", "Slowing down.", "Waiting.");

    private QuotesTest() {
    }

    public static void main(String[] args) throws IOException {
        if (Files.isReadable(DOCUMENT)) {
            Set<String> quotes = quotes();
            for (String sentence : sentences(Files.readString(DOCUMENT))) {
                Checks.tell(quotes.contains(sentence), "no test quotes: " + sentence);
            }
        } else {
            System.out.println(DOCUMENT + " is not there, so the quotes are not compared with it");
        }
        Checks.finish();
    }

    private static Set<String> quotes() throws IOException {
        Set<String> quotes = new HashSet<>();
        try (DirectoryStream<Path> tests = Files.newDirectoryStream(Path.of("tests"), "*Test.java")) {
            for (Path test : tests) {
                Matcher found = QUOTE.matcher(Files.readString(test));
                while (found.find()) {
                    quotes.add(found.group(1).replaceAll("\"\\s*\\+\\s*\"", "").trim().replaceAll("^\"|\"$", ""));
                }
            }
        }
        return quotes;
    }

    private static List<String> sentences(String document) {
        List<String> sentences = new ArrayList<>();
        String name = "";
        for (String line : document.replaceAll("(?s)```.*?```", "").replace("`", "").split("\n")) {
            if (line.equals("## Not promised")) {
                return sentences;
            }
            if (line.startsWith("#")) {
                name = line.startsWith("## Promise ") ? line.substring(line.indexOf(": ") + 2) + ": " : "";
            } else if (!line.isBlank()) {
                addSentences(sentences, name, line.strip());
            }
        }
        Checks.tell(false, "the document does not end with what is not promised");
        return sentences;
    }

    private static void addSentences(List<String> sentences, String name, String line) {
        Matcher signature = SIGNATURE.matcher(line);
        String words = signature.matches() ? signature.group(1) : line.replaceAll("^- ", "");
        for (String sentence : BETWEEN_SENTENCES.split(words)) {
            if (!HEADS.contains(sentence)) {
                sentences.add(name + sentence);
            }
        }
    }
}
