/** What the tests of the document's sentences share: each names its sentence, then compares. */
abstract class Sentences {
    static final int BAD = -1, NO = -2, FULL = -3, NONE = -4;
    static final int MIN = Integer.MIN_VALUE, MAX = Integer.MAX_VALUE;

    private final Checks checks;
    private final Quotes quotes;
    private String sentence = "";

    Sentences(Checks checks, Quotes quotes) {
        this.checks = checks;
        this.quotes = quotes;
    }

    abstract void run();

    /** Names the sentence of the document for which the checks are that follow. */
    final void says(String place, String quote) {
        quotes.name(place, quote);
        sentence = place + " \"" + quote + "\": ";
    }

    final void due(String call, int got, int want) {
        checks.due(sentence + call, got, want);
    }

    final void holds(String what, boolean so) {
        checks.holds(sentence + what, so);
    }

    final void same(String what, String got, String want) {
        checks.holds(sentence + what + ": " + got + ", due is " + want, got.equals(want));
    }

    /** What is due of guests 0, 1, ..: state(g, what). */
    final void states(String when, NextBellboy x, int what, int... wants) {
        for (int g = 0; g < wants.length; g++) {
            due(when + ": state(" + g + ", " + what + ")", x.state(g, what), wants[g]);
        }
    }

    final void counts(String when, NextBellboy x, int... wants) {
        for (int what = 0; what < wants.length; what++) {
            due(when + ": count(" + what + ")", x.count(what), wants[what]);
        }
    }
}
