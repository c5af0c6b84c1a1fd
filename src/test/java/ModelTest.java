import java.util.Random;

/** All promises: random runs of calls, each answer and then the whole state being compared with the model's. */
public final class ModelTest {
    private static final int[] LIMITS = {
        2, 2, 2, 3, 3, 5, 7, 11, 13, 17, 19, 101, 257, 46337, 65537, 1000000007, 2147483629, 2147483647};
    private static final int RUNS_EACH = 150;
    private static final Check CHECK = new Check();

    private final Random random;
    private final PrimePolynomials real;
    private final Model model;
    private final String run;
    private int calls;

    private ModelTest(int limit, int seed) {
        random = new Random(seed);
        real = new PrimePolynomials(limit);
        model = new Model(limit);
        run = "P " + model.p + ", seed " + seed + ", call ";
    }

    public static void main(String[] args) {
        int seed = 1;
        for (int limit : LIMITS) {
            for (int i = 0; i < RUNS_EACH; i++) {
                new ModelTest(limit, seed++).go();
            }
        }
        CHECK.end();
    }

    private void go() {
        due("prime()", real.prime(), model.p);
        // The state takes fewer than 260 calls to read, and a step fewer than 40: no run comes to the 512th.
        int length = 1 + random.nextInt(200);
        while (calls < length) {
            step();
        }
        compareState();
    }

    private void due(String call, long got, long want) {
        calls++;
        CHECK.due(run + calls + ": " + call, got, want);
    }

    private void step() {
        switch (random.nextInt(6)) {
            case 0 -> set(register(), index(), number());
            case 1 -> linear(register());
            case 2 -> arithmetic();
            case 3 -> arithmetic();
            case 4 -> parts();
            default -> field();
        }
    }

    private int register() {
        return random.nextInt(40) == 0 ? odd() : random.nextInt(8);
    }

    private int index() {
        return random.nextInt(40) == 0 ? odd() + 8 : random.nextInt(random.nextBoolean() ? 5 : 16);
    }

    private int odd() {
        int[] values = {-1, 8, -9, 100, Integer.MAX_VALUE, Integer.MIN_VALUE};
        return values[random.nextInt(values.length)];
    }

    private int number() {
        return switch (random.nextInt(4)) {
            case 0 -> random.nextInt();
            case 1 -> random.nextInt(4) - 2;
            case 2 -> 1;
            default -> random.nextInt(40) - 20;
        };
    }

    private void set(int r, int i, int c) {
        due("set(" + r + ", " + i + ", " + c + ")", real.set(r, i, c), model.set(r, i, c));
    }

    /** A product of factors of degree 1, some of them equal: there is something to split then. */
    private void linear(int r) {
        int other = register();
        set(other, 1, 1);
        for (int i = random.nextInt(6); i >= 0; i--) {
            set(other, 0, random.nextInt(5) - 2);
            multiply(r, random.nextInt(4) == 0 ? register() : r, other);
        }
    }

    private void multiply(int d, int x, int y) {
        due("multiply(" + d + ", " + x + ", " + y + ")", real.multiply(d, x, y), model.multiply(d, x, y));
    }

    private void arithmetic() {
        int d = register();
        int x = register();
        int y = register();
        String names = d + ", " + x + ", " + y;
        switch (random.nextInt(8)) {
            case 0 -> {
                int c = number();
                due("value(" + x + ", " + c + ")", real.value(x, c), model.value(x, c));
            }
            case 1, 2 -> {
                int c = number();
                due("add(" + names + ", " + c + ")", real.add(d, x, y, c), model.add(d, x, y, c));
            }
            case 3 -> multiply(d, x, y);
            case 4 -> {
                int r = register();
                due("divide(" + d + ", " + r + ", " + x + ", " + y + ")", real.divide(d, r, x, y), model.divide(d, r, x, y));
            }
            case 5 -> due("common(" + names + ")", real.common(d, x, y), model.common(d, x, y));
            case 6 -> {
                long e = random.nextLong() >> random.nextInt(64);
                due("power(" + d + ", " + x + ", " + e + ", " + y + ")", real.power(d, x, e, y), model.power(d, x, e, y));
            }
            default -> due("derive(" + d + ", " + x + ")", real.derive(d, x), model.derive(d, x));
        }
    }

    private void parts() {
        int r = register();
        switch (random.nextInt(8)) {
            case 0 -> due("isPrime(" + r + ")", real.isPrime(r), model.isPrime(r));
            case 1 -> due("product(" + r + ")", real.product(r), model.product(r));
            case 2, 3, 4 -> due("factor(" + r + ")", real.factor(r), model.factor(r));
            default -> {
                for (int i = 0; i < 3; i++) {
                    int k = random.nextInt(40) == 0 ? odd() : random.nextInt(model.parts.size() + 1);
                    int by = register();
                    set(by, random.nextInt(2), number());
                    due("split(" + k + ", " + by + ")", real.split(k, by), model.split(k, by));
                }
            }
        }
    }

    private void field() {
        int d = register();
        int x = register();
        int y = register();
        switch (random.nextInt(6)) {
            case 0, 1 -> makeField(d);
            case 2 -> due("times(" + d + ", " + x + ", " + y + ")", real.times(d, x, y), model.times(d, x, y));
            case 3 -> due("inverse(" + d + ", " + x + ")", real.inverse(d, x), model.inverse(d, x));
            case 4 -> due("trace(" + x + ", false)", real.trace(x, false), model.trace(x, false));
            default -> due("trace(" + x + ", true)", real.trace(x, true), model.trace(x, true));
        }
    }

    /** Few random polynomials make a field: those of a part that is complete always do. */
    private void makeField(int r) {
        int k = random.nextInt(model.parts.size() + 1);
        int degree = model.part(k, 2);
        if (degree == Model.NONE || degree != model.part(k, 1)) {
            set(r, random.nextInt(8), 1);
        } else {
            for (int i = 0; i < 16; i++) {
                set(r, i, model.part(k, 100 + i));
            }
        }
        due("field(" + r + ")", real.field(r), model.field(r));
    }

    private void compareState() {
        for (int r = 0; r < 8; r++) {
            due("size(" + r + ")", real.size(r), model.size(r));
            for (int i = 0; i < 16; i++) {
                due("coefficient(" + r + ", " + i + ")", real.coefficient(r, i), model.coefficient(r, i));
            }
        }
        for (int k = 0; k <= model.parts.size(); k++) {
            for (int what = 0; what < 4; what++) {
                due("part(" + k + ", " + what + ")", real.part(k, what), model.part(k, what));
            }
            for (int what = 100; what < 100 + model.part(k, 2) + 2; what++) {
                due("part(" + k + ", " + what + ")", real.part(k, what), model.part(k, what));
            }
        }
        due("trace(0, true)", real.trace(0, true), model.trace(0, true));
        due("product(0)", real.product(0), model.product(0));
    }
}
