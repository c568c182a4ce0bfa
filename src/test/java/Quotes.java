import java.io.IOException;
import java.nio.charset.StandardCharsets;
import java.nio.file.Files;
import java.nio.file.Paths;
import java.util.ArrayList;
import java.util.Arrays;
import java.util.LinkedHashMap;
import java.util.List;
import java.util.Map;

/**
 * The document's sentences by their places: "what" (what it is), "512" (how long an object is
 * used), "face" (the public face), "1" to "4" (the parts of its terms), "answers" (the line behind
 * part 4), "calls" (what the interface says ahead of which calls), "H1" to "H26" (the promises'
 * headings), "P1" to "P26" (the promises), "not" (what is not promised). A test names the sentence
 * that it is for; what no test names is told.
 */
final class Quotes {
    static final int PROMISES = 26;

    private final String doc;
    private final boolean[] placed;
    private final Map<String, String> texts = new LinkedHashMap<>();
    private final Map<String, boolean[]> named = new LinkedHashMap<>();
    private final Checks checks;

    Quotes(String path, Checks checks) throws IOException {
        this.checks = checks;
        doc = new String(Files.readAllBytes(Paths.get(path)), StandardCharsets.UTF_8);
        placed = new boolean[doc.length()];
        put("what", "## What it is\n", "An object is used", true);
        put("512", "An object is used", "## The public face", false);
        put("face", "## The public face\n", "## Terms", true);
        for (int part = 1; part <= 4; part++) {
            put("" + part, "======== " + part, part < 4 ? "======== " + (part + 1) : "\nBAD: ", true);
        }
        put("answers", "\nBAD: ", "Ahead of the calls", false);
        put("calls", "Ahead of the calls", "## Promise 1:", false);
        for (int p = 1; p <= PROMISES; p++) {
            String heading = "## Promise " + p + ":";
            String next = p < PROMISES ? "## Promise " : "## Not promised";
            put("H" + p, heading, "`: ", false);
            put("P" + p, doc.indexOf("`: ", find(heading, 0)) + 3, find(next, find(heading, 0) + heading.length()));
        }
        put("not", find("## Not promised\n", 0) + 16, doc.length());
    }

    private int find(String words, int from) {
        int at = doc.indexOf(words, from);
        if (at < 0) {
            throw new AssertionError("the document has no " + words);
        }
        return at;
    }

    private void put(String place, String from, String to, boolean isBehind) {
        int start = find(from, 0);
        put(place, isBehind ? start + from.length() : start, find(to, start + from.length()));
    }

    private void put(String place, int start, int end) {
        Arrays.fill(placed, start, end, true);
        texts.put(place, plain(doc.substring(start, end)));
        named.put(place, new boolean[texts.get(place).length()]);
    }

    private static String plain(String text) {
        return text.replaceAll("```(text|java)?", " ").replaceAll("\\s+", " ").trim();
    }

    /** The places' texts in one line each. */
    String at(String place) {
        return texts.getOrDefault(place, "");
    }

    /** A part of a place's text that is behind the one word and ahead of the other, each time that it is there. */
    List<String> each(String place, String behind, String ahead) {
        List<String> found = new ArrayList<>();
        String text = at(place);
        int from = text.indexOf(behind);
        while (from >= 0) {
            int to = text.indexOf(ahead, from + behind.length());
            if (to < 0) {
                break;
            }
            found.add(text.substring(from + behind.length(), to));
            from = text.indexOf(behind, to);
        }
        return found;
    }

    void name(String place, String quote) {
        String text = at(place);
        int at = text.indexOf(quote);
        checks.holds("the document says at " + place + ": " + quote, at >= 0);
        while (at >= 0) {
            Arrays.fill(named.get(place), at, at + quote.length(), true);
            at = text.indexOf(quote, at + 1);
        }
    }

    /** Each word of each place stands in a sentence for which there is a test; headings stand beside the places. */
    void allAreNamed() {
        for (String place : texts.keySet()) {
            String words = left(texts.get(place), named.get(place)).replaceAll("\\s+", " ").trim();
            checks.holds("at " + place + " no test names: " + words, !words.matches(".*[A-Za-z0-9].*"));
        }
        for (String line : left(doc, placed).split("\n")) {
            String words = line.trim();
            checks.holds("at no place: " + words, words.startsWith("#") || words.matches("\\W*|=+ \\d"));
        }
    }

    private static String left(String text, boolean[] taken) {
        StringBuilder left = new StringBuilder();
        for (int i = 0; i < text.length(); i++) {
            left.append(taken[i] && text.charAt(i) != '\n' ? ' ' : text.charAt(i));
        }
        return left.toString();
    }
}
