import java.io.IOException;
import java.nio.file.Files;
import java.nio.file.Path;
import java.util.ArrayList;
import java.util.Arrays;
import java.util.List;
import java.util.Set;
import java.util.TreeSet;
import java.util.regex.Matcher;
import java.util.regex.Pattern;
import java.util.stream.Collectors;
import java.util.stream.Stream;

/**
 * Each sentence of the document has a test: the words that the tests name by says("..") stand in the
 * document, and nothing of its terms and promises is left that no test names. Runs from the project's folder.
 */
public final class SentencesTest {
    private static final Path DOCUMENT = Path.of("../shared/DOC.md"), TESTS = Path.of("src/test/java");
    private static final Pattern SAYS = Pattern.compile("\\.says\\(\\s*((?:\"[^\"]*\"[\\s+]*)+)\\)");
    private static final Pattern QUOTED = Pattern.compile("\"([^\"]*)\"");

    public static void main(String[] args) throws IOException {
        if (!Files.isReadable(DOCUMENT)) {
            System.out.println("not compared: there is no " + DOCUMENT);
            return;
        }
        String document = Files.readString(DOCUMENT);
        Set<String> named = namedByTests();
        boolean wrong = false;
        for (String words : named) {
            if (!plain(document).contains(words)) {
                System.out.println("the document does not say: " + words);
                wrong = true;
            }
        }
        for (String words : notNamed(termsAndPromises(document), named)) {
            System.out.println("no test names: " + words);
            wrong = true;
        }
        System.out.println(wrong ? "not every sentence has its test" : "every sentence has its test");
        if (wrong) {
            System.exit(1);
        }
    }

    private static String plain(String words) {
        return words.replaceAll("\\s+", " ").trim();
    }

    /** Without headings, fences and the signatures of the calls. */
    private static String termsAndPromises(String document) {
        String part = document.substring(document.indexOf("## Terms"), document.indexOf("## Not promised"));
        StringBuilder text = new StringBuilder();
        for (String line : part.split("\n")) {
            if (!line.startsWith("#") && !line.startsWith("```")) {
                text.append(line.replaceFirst("^`[^`]*`:", "")).append('\n');
            }
        }
        return plain(text.toString());
    }

    private static Set<String> namedByTests() throws IOException {
        List<Path> files;
        try (Stream<Path> all = Files.list(TESTS)) {
            files = all.filter(f -> f.toString().endsWith("Test.java")).collect(Collectors.toList());
        }
        Set<String> named = new TreeSet<>();
        for (Path file : files) {
            Matcher says = SAYS.matcher(Files.readString(file));
            while (says.find()) {
                StringBuilder words = new StringBuilder();
                QUOTED.matcher(says.group(1)).results().forEach(r -> words.append(r.group(1)));
                named.add(plain(words.toString()));
            }
        }
        return named;
    }

    /** The pieces of the text between those that are named, but for mere punctuation. */
    private static List<String> notNamed(String text, Set<String> named) {
        char[] left = text.toCharArray();
        for (String words : named) {
            for (int at = text.indexOf(words); at >= 0; at = text.indexOf(words, at + 1)) {
                Arrays.fill(left, at, at + words.length(), '\n');
            }
        }
        return new String(left).lines().filter(l -> l.matches(".*\\w.*")).map(String::trim).collect(Collectors.toList());
    }
}
