import java.math.BigInteger;

/** The draws of a season, reckoned with numbers of any length, and an hour ahead done by acts. */
final class Draws {
    private static final BigInteger MODULUS = BigInteger.valueOf(65521);

    private Draws() {
    }

    static int draw(int z, int k) {
        BigInteger x = BigInteger.valueOf(7919).multiply(BigInteger.valueOf(z))
            .add(BigInteger.valueOf(6151).multiply(BigInteger.valueOf(k))).add(BigInteger.ONE);
        return x.multiply(x).mod(MODULUS).intValueExact();
    }

    /** Which draws a test wants. */
    interface Wanted {
        boolean is(int draw);
    }

    /** The first season whose first draws are so, each by one of these. */
    static int seasonWith(Wanted... wanted) {
        for (int z = 0; z <= 9999; z++) {
            boolean so = true;
            for (int k = 0; k < wanted.length; k++) {
                so &= wanted[k].is(draw(z, k));
            }
            if (so) {
                return z;
            }
        }
        throw new AssertionError("no season has such draws");
    }

    /** Draws that do nothing. */
    static boolean idle(int draw) {
        return draw % 8 > 2;
    }

    /** What a season does ahead of an hour, done by calls of the face, and the hour. */
    static void goBy(NextBellboy x, int draw) {
        int many = x.count(0);
        int g = draw / 8 % many;
        if (draw % 8 == 0) {
            x.book(g, Math.min(40, x.count(1) + draw / 64 % 8));
        } else if (draw % 8 == 1) {
            x.call(g);
        } else if (draw % 8 == 2) {
            x.change(g, draw / 64 % many);
        }
        x.pass(1);
    }
}
