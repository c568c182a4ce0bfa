/**
 * Each sentence of the document that names a boundary, a refusal or an order of answers, each in a
 * test that names it; a word of the document for which no test stands is told too. The document's
 * path is the second argument.
 */
public final class SentencesTest {
    public static void main(String[] args) throws Exception {
        Checks checks = new Checks();
        Quotes quotes = new Quotes(args[1], checks);
        Sentences[] all = {
            new TextSentences(checks, quotes),
            new HourSentences(checks, quotes),
            new ForecastSentences(checks, quotes),
            new SeasonSentences(checks, quotes),
            new AnswerSentences(checks, quotes)};
        for (Sentences some : all) {
            some.run();
        }
        quotes.allAreNamed();
        checks.close("SentencesTest");
    }
}
