import java.nio.charset.StandardCharsets;
import java.nio.file.Files;
import java.nio.file.Paths;

/**
 * Each sentence of the document in a test that names it; a word of the document for which no test
 * stands is told too. The source's path is the first argument, the document's path the second.
 */
public final class SentencesTest {
    public static void main(String[] args) throws Exception {
        Checks checks = new Checks();
        Quotes quotes = new Quotes(args[1], checks);
        String source = new String(Files.readAllBytes(Paths.get(args[0])), StandardCharsets.UTF_8);
        Sentences[] all = {
            new WholeSentences(checks, quotes),
            new FaceSentences(checks, quotes, source),
            new TextSentences(checks, quotes),
            new HourSentences(checks, quotes),
            new ForecastSentences(checks, quotes),
            new SeasonSentences(checks, quotes),
            new AnswerSentences(checks, quotes)};
        for (Sentences some : all) {
            some.run();
        }
        quotes.allAreNamed();
        checks.close("SentencesTest");
    }
}
