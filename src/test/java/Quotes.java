import java.io.IOException;
import java.nio.charset.StandardCharsets;
import java.nio.file.Files;
import java.nio.file.Paths;
import java.util.LinkedHashMap;
import java.util.Map;

/**
 * The document's sentences by their places: "512" (how long an object is used), "1" to "4" (the
 * parts of its terms), "answers" (the lines behind part 4), "P1" to "P26" (the promises). A test
 * names the sentence that it is for; what no test names is told.
 */
final class Quotes {
    private final Map<String, String> texts = new LinkedHashMap<>();
    private final Map<String, boolean[]> named = new LinkedHashMap<>();
    private final Checks checks;

    Quotes(String path, Checks checks) throws IOException {
        this.checks = checks;
        String doc = new String(Files.readAllBytes(Paths.get(path)), StandardCharsets.UTF_8);
        put("512", between(doc, "An object is used", "## The public face"));
        for (int part = 1; part <= 3; part++) {
            put("" + part, between(doc, "======== " + part, "======== " + (part + 1)).substring(10));
        }
        put("4", between(doc, "======== 4", "\nBAD: ").substring(10));
        put("answers", between(doc, "\nBAD: ", "Ahead of the calls"));
        for (int p = 1; p <= 26; p++) {
            String promise = between(doc, "## Promise " + p + ":", p < 26 ? "## Promise " : "## Not promised");
            put("P" + p, promise.substring(promise.indexOf("`: ") + 3));
        }
    }

    private static String between(String doc, String from, String to) {
        int start = doc.indexOf(from);
        int end = doc.indexOf(to, start + from.length());
        if (start < 0 || end < 0) {
            throw new AssertionError("the document has no " + from + " .. " + to);
        }
        return doc.substring(start, end);
    }

    private void put(String place, String text) {
        String plain = text.replaceAll("```(text)?", " ").replaceAll("\\s+", " ").trim();
        texts.put(place, plain);
        named.put(place, new boolean[plain.length()]);
    }

    void name(String place, String quote) {
        String text = texts.get(place);
        int at = text == null ? -1 : text.indexOf(quote);
        checks.holds("the document says at " + place + ": " + quote, at >= 0);
        while (at >= 0) {
            for (int i = at; i < at + quote.length(); i++) {
                named.get(place)[i] = true;
            }
            at = text.indexOf(quote, at + 1);
        }
    }

    /** Each word of each place stands in a sentence for which there is a test. */
    void allAreNamed() {
        for (String place : texts.keySet()) {
            String text = texts.get(place);
            StringBuilder left = new StringBuilder();
            for (int i = 0; i < text.length(); i++) {
                left.append(named.get(place)[i] ? ' ' : text.charAt(i));
            }
            String words = left.toString().replaceAll("\\s+", " ").trim();
            checks.holds("at " + place + " no test names: " + words, !words.matches(".*[A-Za-z0-9].*"));
        }
    }
}
