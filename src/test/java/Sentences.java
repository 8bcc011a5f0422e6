import java.io.IOException;
import java.nio.file.Files;
import java.nio.file.Path;
import java.util.ArrayList;
import java.util.List;
import java.util.function.Consumer;

/**
 * Runs one test for one sentence of the document, and keeps the sentence: so that one finds the
 * promise and the sentence of an answer that is wrong, and sees whether a sentence lacks its test.
 */
final class Sentences {
    private final Check check;
    private final List<String> places = new ArrayList<>();
    private final List<String> quotes = new ArrayList<>();

    Sentences(Check check) {
        this.check = check;
    }

    /** The place is "Terms", "Promise 7" or another heading of the document, the quote its own words. */
    void test(String place, String quote, Consumer<Check> body) {
        places.add(place);
        quotes.add(quote);
        check.within(place + ", \"" + quote + "\"");
        body.accept(check);
        check.within("");
    }

    /** Every quote stands in the document at its place, and every boundary that it names is quoted. */
    void compareWith(Path document) throws IOException {
        if (!Files.isReadable(document)) {
            System.out.println(document + " is not here: the quotes are not compared with it");
            return;
        }
        String text = Files.readString(document);
        for (int test = 0; test < quotes.size(); test++) {
            boolean found = section(text, places.get(test)).contains(quotes.get(test));
            check.same(places.get(test) + " says \"" + quotes.get(test) + "\"", found, true);
        }
        for (String part : text.split("(?m)^## ")) {
            requireTests(part);
        }
    }

    private static String section(String text, String place) {
        for (String part : text.split("(?m)^## ")) {
            if (part.startsWith(place + ":") || part.startsWith(place + "\n")) {
                return part;
            }
        }
        return "";
    }

    private void requireTests(String part) {
        String heading = part.lines().findFirst().orElse("");
        String place = heading.split(":")[0];
        boolean[] quoted = quotedIn(part, place);
        int start = 0;
        for (String line : part.split("\n", -1)) {
            int from = start + firstToQuote(place, line);
            int to = start + line.length();
            for (int at = from; at < to; at++) {
                if (Character.isLetterOrDigit(part.charAt(at)) && !quoted[at]) {
                    check.sameText(place + " has a test for", "none", line);
                    break;
                }
            }
            start += line.length() + 1;
        }
    }

    private boolean[] quotedIn(String part, String place) {
        boolean[] quoted = new boolean[part.length()];
        for (int test = 0; test < quotes.size(); test++) {
            String quote = quotes.get(test);
            int found = places.get(test).equals(place) ? part.indexOf(quote) : -1;
            while (found >= 0) {
                java.util.Arrays.fill(quoted, found, found + quote.length(), true);
                found = part.indexOf(quote, found + 1);
            }
        }
        return quoted;
    }

    /** Where the words of a line begin that need a test; its length if none do. */
    private static int firstToQuote(String place, String line) {
        boolean bounds = line.startsWith("- `") || line.startsWith("Returns ") || line.startsWith("Throws ");
        boolean terms = place.equals("Terms") && !line.startsWith("Ahead of") && !line.startsWith("Terms");
        if (bounds || terms) {
            return 0;
        }
        if (line.startsWith("`") && place.startsWith("Promise ")) {
            return line.indexOf("`: ") + 3;
        }
        return line.length();
    }
}
