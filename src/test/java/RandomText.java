import java.util.Random;

/** Texts by fixed dice, for the tests that hold the program against the model. */
final class RandomText {
    private RandomText() {
    }

    /** A text without a fault, with the items mixed and some numbers in two figures. */
    static String soundText(Random dice) {
        int guests = 1 + dice.nextInt(7);
        int rooms = dice.nextInt(8);
        int lastHour = dice.nextInt(41);
        StringBuilder text = new StringBuilder();
        while (guests > 0 || rooms > 0) {
            boolean guest = rooms == 0 || guests > 0 && dice.nextInt(3) > 0;
            if (guest) {
                guests--;
                text.append('g').append(number(dice, dice.nextInt(4)));
                text.append(',').append(number(dice, dice.nextInt(lastHour + 1)));
                text.append(',').append(number(dice, 1 + dice.nextInt(dice.nextBoolean() ? 30 : 6)));
                text.append(',').append(number(dice, dice.nextInt(21)));
                text.append(',').append(number(dice, 1 + dice.nextInt(9))).append(';');
            } else {
                rooms--;
                text.append('r').append(number(dice, dice.nextInt(10))).append(';');
            }
        }
        return text.length() <= 200 ? text.toString() : soundText(dice);
    }

    /** A sound text with some letters changed, left out or put in. */
    static String spoiltText(Random dice) {
        StringBuilder text = new StringBuilder(soundText(dice));
        String letters = "gr0123456789,; xG-";
        for (int i = dice.nextInt(3); i >= 0 && text.length() > 0; i--) {
            int at = dice.nextInt(text.length());
            char letter = letters.charAt(dice.nextInt(letters.length()));
            switch (dice.nextInt(4)) {
                case 0: text.setCharAt(at, letter); break;
                case 1: text.deleteCharAt(at); break;
                case 2: text.insert(at, letter); break;
                default: text.setLength(at); break;
            }
        }
        return text.length() <= 200 ? text.toString() : text.substring(0, 200);
    }

    private static String number(Random dice, int n) {
        return n < 10 && dice.nextInt(8) == 0 ? "0" + n : Integer.toString(n);
    }
}
