import java.util.Random;

/** Long random runs, held against the model call by call; the seeds are fixed. */
public final class RandomRunsTest {
    private static final int RUNS = 300;
    private static final int CALLS = 480;

    private static final Checks checks = new Checks();
    private static NextBellboy x;
    private static Model m;
    private static Random dice;
    private static String run;
    private static int dealsLeft;

    public static void main(String[] args) {
        for (int seed = 0; seed < RUNS && !checks.anyWrong(); seed++) {
            x = new NextBellboy();
            m = new Model();
            dice = new Random(seed);
            dealsLeft = 3;
            run = "seed " + seed;
            int calls = 0;
            if (seed % 8 != 0) {
                calls += layRandom();
            }
            int passes = 1 + dice.nextInt(12);
            while (calls < CALLS) {
                calls += step(passes);
            }
        }
        checks.close("RandomRunsTest");
    }

    private static void due(String call, int got, int want) {
        checks.due(run + ": " + call, got, want);
    }

    private static int layRandom() {
        String text = RandomText.soundText(dice);
        int calls = 1;
        due("wipe()", x.wipe(), m.wipe());
        for (int i = 0; i < text.length(); i++) {
            due("write", x.write(text.charAt(i)), m.write(text.charAt(i)));
            calls++;
        }
        due("fault()", x.fault(), m.fault());
        due("lay()", x.lay(), m.lay());
        run += " " + text;
        return calls + 2;
    }

    /** One act, or a look at everything; the numbers now and then lie beyond the edge. */
    private static int step(int passes) {
        int g = dice.nextInt(9) - 1;
        int j = dice.nextInt(9) - 1;
        switch (dice.nextInt(24)) {
            case 0: case 1: case 2: {
                int n = dice.nextInt(30) == 0 ? dice.nextInt(40) - 5 : 1 + dice.nextInt(passes);
                due("pass(" + n + ")", x.pass(n), m.pass(n));
                return 1;
            }
            case 3: case 4: {
                int h = dice.nextInt(10) == 0 ? dice.nextInt(60) - 10 : Math.min(40, m.count(1) + dice.nextInt(12));
                due("book(" + g + ", " + h + ")", x.book(g, h), m.book(g, h));
                return 1;
            }
            case 5:
                if (dice.nextInt(3) == 0) {
                    due("call(" + g + ")", x.call(g), m.call(g));
                }
                return 1;
            case 6: case 7:
                due("change(" + g + ", " + j + ")", x.change(g, j), m.change(g, j));
                return 1;
            case 8: case 9:
                due("undo()", x.undo(), m.undo());
                return 1;
            case 10:
                due("keep()", x.keep(), m.keep());
                return 1;
            case 11:
                due("back()", x.back(), m.back());
                return 1;
            case 12: {
                int c = dice.nextInt(20) == 0 ? 190 + dice.nextInt(20) : dice.nextInt(14) - 1;
                due("see(" + g + ", " + c + ")", x.see(g, c), m.see(g, c));
                return 1;
            }
            case 13:
                due("forget()", x.forget(), m.forget());
                return 1;
            case 14:
                return lookAtOrders();
            case 15:
                return lookAtDeals();
            case 16: {
                int n = dice.nextInt(64) - 1;
                int z = dice.nextInt(10100) - 50;
                due("season(" + z + ", " + n + ", 0)", x.season(z, n, 0), m.season(z, n, 0));
                due("season(" + z + ", " + n + ", 1)", x.season(z, n, 1), m.season(z, n, 1));
                return 2;
            }
            case 17: {
                int t = dice.nextInt(13) - 1;
                due("absent(" + g + ", " + t + ", 0)", x.absent(g, t, 0), m.absent(g, t, 0));
                due("absent(" + g + ", " + t + ", 1)", x.absent(g, t, 1), m.absent(g, t, 1));
                return 2;
            }
            case 18: case 19:
                return lookAhead(g);
            case 20:
                return scribble();
            default:
                return lookAtAll();
        }
    }

    private static int lookAtOrders() {
        for (int k = -2; k <= m.count(0); k++) {
            due("orders(" + k + ")", x.orders(k), m.orders(k));
        }
        return m.count(0) + 3;
    }

    private static int lookAtDeals() {
        if (m.count(2) > 5) {
            // the model takes long over so many ways
            if (dealsLeft <= 0) {
                return 1;
            }
            dealsLeft--;
            due("deal(-1)", x.deal(-1), m.deal(-1));
            return 1;
        }
        for (int g = -2; g <= m.count(0); g++) {
            due("deal(" + g + ")", x.deal(g), m.deal(g));
        }
        return m.count(0) + 3;
    }

    private static int lookAhead(int g) {
        due("freed(" + g + ")", x.freed(g), m.freed(g));
        due("task(" + g + ")", x.task(g), m.task(g));
        due("early(" + g + ", 0)", x.early(g, 0), m.early(g, 0));
        due("early(" + g + ", 1)", x.early(g, 1), m.early(g, 1));
        due("done()", x.done(), m.done());
        for (int what = -1; what <= 2; what++) {
            due("off(" + what + ")", x.off(what), m.off(what));
        }
        return 9;
    }

    private static int scribble() {
        int letter = dice.nextInt(6) == 0 ? dice.nextInt(140) - 5 : "gr0,;1".charAt(dice.nextInt(6));
        due("write(" + letter + ")", x.write(letter), m.write(letter));
        due("fault()", x.fault(), m.fault());
        if (dice.nextInt(40) == 0) {
            due("lay()", x.lay(), m.lay());
            return 3;
        }
        return 2;
    }

    private static int lookAtAll() {
        int calls = 0;
        for (int what = -1; what <= 13; what++) {
            due("count(" + what + ")", x.count(what), m.count(what));
            calls++;
        }
        int g = dice.nextInt(9) - 1;
        for (int what = -1; what <= 7; what++) {
            due("state(" + g + ", " + what + ")", x.state(g, what), m.state(g, what));
            due("guest(" + g + ", " + what + ")", x.guest(g, what), m.guest(g, what));
            calls += 2;
        }
        return calls;
    }
}
