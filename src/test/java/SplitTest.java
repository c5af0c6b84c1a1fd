import java.util.Random;

/**
 * Promises 14, 16 and 17 for parts of several prime polynomials of degree 2 and more, which random runs seldom
 * have: each split is compared with the model's, whose powers are taken by the exponent that the document tells.
 */
public final class SplitTest {
    private static final int[] PRIMES = {2, 3, 5, 7, 13, 101, 46337, 65537, 1000003, 2147483647};
    private static final int TRIES = 8;
    private static final int SPLITS = 15;
    private static final int WHOLE = 0;
    private static final int FACTOR = 1;
    private static final int BY = 2;
    private static final Check CHECK = new Check();

    private final Random random;
    private final PrimePolynomials real;
    private final Model model;
    private final String run;

    private SplitTest(int p, int seed) {
        random = new Random(seed);
        real = new PrimePolynomials(p);
        model = new Model(p);
        run = "P " + p + ", seed " + seed + ": ";
    }

    public static void main(String[] args) {
        int seed = 1;
        for (int p : PRIMES) {
            for (int d = 2; d <= 7; d++) {
                int done = 0;
                for (int i = 0; i < TRIES; i++) {
                    done += new SplitTest(p, seed++).go(d);
                }
                // there is only one prime polynomial of degree 2 modulo 2
                boolean any = p > 2 || d > 2;
                CHECK.due("P " + p + ", d " + d + ": some became two", done > 0 ? 1 : 0, any ? 1 : 0);
            }
        }
        CHECK.end();
    }

    /** How many splits made two of one. */
    private int go(int d) {
        makeWhole(d);
        due("factor(0)", real.factor(WHOLE), model.factor(WHOLE));
        int done = 0;
        for (int i = 0; i < SPLITS; i++) {
            for (int j = 0; j < 6; j++) {
                set(BY, j, random.nextInt());
            }
            int k = random.nextInt(model.parts.size());
            int answer = model.split(k, BY);
            due("split(" + k + ", 2)", real.split(k, BY), answer);
            done += answer == 1 ? 1 : 0;
        }
        compareParts();
        due("product(3)", real.product(3), model.product(3));
        for (int i = 0; i < 16; i++) {
            due("coefficient(3, " + i + ")", real.coefficient(3, i), model.coefficient(3, i));
            due("what was factored, " + i, real.coefficient(3, i), real.coefficient(WHOLE, i));
        }
        return done;
    }

    /** Two or more prime polynomials of degree d, as there is room, some of them perhaps equal, times -1. */
    private void makeWhole(int d) {
        model.set(WHOLE, 0, -1);
        for (int n = 2 + random.nextInt(15 / d - 1); n > 0; n--) {
            findFactor(d);
            model.multiply(WHOLE, WHOLE, FACTOR);
        }
        for (int i = 0; i < 16; i++) {
            real.set(WHOLE, i, model.coefficient(WHOLE, i));
        }
    }

    private void findFactor(int d) {
        model.set(FACTOR, d, 1);
        do {
            for (int i = 0; i < d; i++) {
                model.set(FACTOR, i, random.nextInt());
            }
        } while (model.isPrime(FACTOR) == 0);
    }

    private void set(int r, int i, int c) {
        due("set(" + r + ", " + i + ", " + c + ")", real.set(r, i, c), model.set(r, i, c));
    }

    private void compareParts() {
        for (int k = 0; k <= model.parts.size(); k++) {
            for (int what = 0; what < 3; what++) {
                due("part(" + k + ", " + what + ")", real.part(k, what), model.part(k, what));
            }
            for (int what = 100; what < 116; what++) {
                due("part(" + k + ", " + what + ")", real.part(k, what), model.part(k, what));
            }
        }
    }

    private void due(String call, long got, long want) {
        CHECK.due(run + call, got, want);
    }
}
