import java.io.IOException;
import java.nio.file.DirectoryStream;
import java.nio.file.Files;
import java.nio.file.Path;
import java.util.ArrayList;
import java.util.Arrays;
import java.util.List;
import java.util.regex.Matcher;
import java.util.regex.Pattern;

/**
 * The document from its first line to its last: each of its words is quoted by a test, and each quote
 * has words of the document. What the quotes make due is asked by the tests in which they stand.
 */
public final class DocumentTest {
    private static final Check CHECK = new Check("DocumentTest");

    private static final String LITERAL = "\"(?:[^\"\\\\]|\\\\.)*\"";
    private static final Pattern QUOTE =
            Pattern.compile("CHECK\\.sentence\\(\\s*(" + LITERAL + "(?:\\s*\\+\\s*" + LITERAL + ")*)");
    private static final Pattern ONE_LITERAL = Pattern.compile(LITERAL);
    private static final Pattern NUMBERED = Pattern.compile("(\\d+): (.*)");

    public static void main(String[] args) throws IOException {
        Path root = Path.of(args.length == 0 ? "." : args[0]);
        Document document = Document.below(root);
        if (document == null) {
            System.out.println("DocumentTest: there is no ../shared/DOC.md here, so no quote was compared with it");
            return;
        }
        List<String> quotes = new ArrayList<>();
        try (DirectoryStream<Path> tests = Files.newDirectoryStream(root.resolve("src/test/java"), "*Test.java")) {
            for (Path test : tests) {
                addQuotes(Files.readString(test), quotes);
            }
        }
        CHECK.due("there are quotes", quotes.isEmpty(), false);
        promisesAreOfTheFace(document);
        compare(document, quotes);
        CHECK.end();
    }

    private static void addQuotes(String program, List<String> quotes) {
        Matcher found = QUOTE.matcher(program);
        while (found.find()) {
            StringBuilder quote = new StringBuilder();
            Matcher literal = ONE_LITERAL.matcher(found.group(1));
            while (literal.find()) {
                quote.append(literal.group(), 1, literal.group().length() - 1);
            }
            quotes.add(quote.toString());
        }
    }

    private static void promisesAreOfTheFace(Document document) {
        String face = document.named("The public face").words;
        int promises = 0;
        for (Document.Part part : document.parts) {
            if (part.promise() > 0) {
                promises++;
                CHECK.due("promises are numbered", part.promise(), promises);
                CHECK.due(part.method + " is of the face", face.contains(" public " + part.method + "; "), true);
            }
        }
        CHECK.due("promises", promises, 17);
    }

    private static void compare(Document document, List<String> quotes) {
        boolean[] used = new boolean[quotes.size()];
        for (Document.Part part : document.parts) {
            boolean[] quoted = new boolean[part.words.length()];
            for (int k = 0; k < quotes.size(); k++) {
                used[k] |= mark(part, quotes.get(k), quoted);
            }
            // The face is compared by FaceTest, and what is not promised is free.
            if (part.heading.equals("The public face") || part.heading.equals("Not promised")) {
                continue;
            }
            List<String> rest = notQuoted(part, quoted);
            CHECK.due(part.heading + ": words that no test quotes, " + rest, rest.size(), 0);
        }
        for (int k = 0; k < used.length; k++) {
            CHECK.due("'" + quotes.get(k) + "' stands in the document", used[k], true);
        }
    }

    /** A quote with a number before it is of that promise, one without of what is told before them. */
    private static boolean mark(Document.Part part, String quote, boolean[] quoted) {
        Matcher numbered = NUMBERED.matcher(quote);
        boolean ofPromise = numbered.matches();
        if (ofPromise ? Integer.parseInt(numbered.group(1)) != part.promise() : part.promise() != 0) {
            return false;
        }
        String[] pieces = (ofPromise ? numbered.group(2) : quote).split(" \\.\\.\\. ");
        int[] starts = new int[pieces.length];
        int from = 0;
        for (int k = 0; k < pieces.length; k++) {
            starts[k] = part.words.indexOf(pieces[k], from);
            if (starts[k] < 0) {
                return false;
            }
            from = starts[k] + pieces[k].length();
        }
        for (int k = 0; k < pieces.length; k++) {
            Arrays.fill(quoted, starts[k], starts[k] + pieces[k].length(), true);
        }
        return true;
    }

    private static List<String> notQuoted(Document.Part part, boolean[] quoted) {
        List<String> found = new ArrayList<>();
        int start = 0;
        for (int k = 0; k <= quoted.length; k++) {
            if (k == quoted.length || quoted[k]) {
                String rest = part.words.substring(start, k);
                if (rest.chars().anyMatch(Character::isLetterOrDigit)) {
                    found.add(rest.trim());
                }
                start = k + 1;
            }
        }
        return found;
    }
}
