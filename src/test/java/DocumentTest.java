import java.lang.reflect.Method;
import java.nio.file.Files;
import java.nio.file.Path;
import java.util.ArrayList;
import java.util.Arrays;
import java.util.List;

/**
 * The tests of the promises against the document: each test is named by its promise's number and quotes
 * words that stand there, and no word of a promise or of the terms is left without a test.
 */
public final class DocumentTest {
    private static final Due due = new Due();

    public static void main(String[] args) throws Exception {
        String document = Files.readString(Path.of(args[0], "..", "shared", "DOC.md")).replaceAll("\\s+", " ");
        String use = section(document, "## What it is");
        String terms = section(document, "## Terms");
        List<String> all = new ArrayList<>();
        for (int promise = 1; promise <= Promises.COUNT; promise++) {
            String text = section(document, "## Promise " + promise + ":").replaceFirst("^[^`]*`[^`]*`:", "");
            List<String> quotes = quotesOf(promise, text, terms, use);
            covered("promise " + promise, text, quotes);
            all.addAll(quotes);
        }
        covered("the terms", terms, all);
        due.end();
    }

    private static String section(String document, String heading) {
        int from = document.indexOf(heading);
        due.isTrue(heading + " stands in the document", from >= 0);
        int start = Math.max(from, 0) + heading.length();
        int end = document.indexOf(" ## ", start);
        return document.substring(start, end < 0 ? document.length() : end);
    }

    private static List<String> quotesOf(int promise, String text, String terms, String use) throws Exception {
        String number = String.format("%02d", promise);
        List<String> quotes = new ArrayList<>();
        for (Method test : Promises.testsOf(Class.forName("Promise" + number + "Test"))) {
            due.isTrue(test.getName() + " is named by its promise", test.getName().startsWith("p" + number + "_"));
            for (String quote : test.getAnnotation(Says.class).value()) {
                due.isTrue(test.getName() + " quotes the document: " + quote,
                        text.contains(quote) || terms.contains(quote) || use.contains(quote));
                quotes.add(quote);
            }
        }
        due.isTrue("promise " + promise + " has tests", !quotes.isEmpty());
        return quotes;
    }

    private static void covered(String name, String text, List<String> quotes) {
        boolean[] quoted = new boolean[text.length()];
        for (String quote : quotes) {
            for (int at = text.indexOf(quote); at >= 0; at = text.indexOf(quote, at + 1)) {
                Arrays.fill(quoted, at, at + quote.length(), true);
            }
        }
        StringBuilder left = new StringBuilder();
        for (int i = 0; i < quoted.length; i++) {
            left.append(quoted[i] ? ' ' : text.charAt(i));
        }
        String words = left.toString().replaceAll("[^\\w]+", " ").trim();
        due.isTrue(name + ": no test quotes [" + words + "]", words.isEmpty());
    }
}
