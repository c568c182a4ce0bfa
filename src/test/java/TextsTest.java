import java.util.Random;

/** Sound and spoilt texts, held against the model letter by letter; the seed is fixed. */
public final class TextsTest {
    private static final int TEXTS = 3000;

    public static void main(String[] args) {
        Checks checks = new Checks();
        Random dice = new Random(7);
        for (int i = 0; i < TEXTS; i++) {
            String text = dice.nextInt(3) == 0 ? RandomText.soundText(dice) : RandomText.spoiltText(dice);
            NextBellboy x = new NextBellboy();
            Model m = new Model();
            for (int at = 0; at < text.length(); at++) {
                x.write(text.charAt(at));
                m.write(text.charAt(at));
                checks.due("fault() of " + text.substring(0, at + 1), x.fault(), m.fault());
            }
            checks.due("lay() of " + text, x.lay(), m.lay());
            for (int g = 0; g < 7; g++) {
                for (int what = 0; what < 4; what++) {
                    checks.due("guest(" + g + ", " + what + ") of " + text, x.guest(g, what), m.guest(g, what));
                    checks.due("state(" + g + ", " + what + ") of " + text, x.state(g, what), m.state(g, what));
                }
            }
        }
        checks.close("TextsTest");
    }
}
