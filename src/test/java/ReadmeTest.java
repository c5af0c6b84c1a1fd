/** The examples of README.md answer what is written there. */
public final class ReadmeTest {
    private static final Check CHECK = new Check();

    public static void main(String[] args) {
        PrimePolynomials x = new PrimePolynomials(7);
        parts(x);
        field(x);
        CHECK.end();
    }

    private static void parts(PrimePolynomials x) {
        x.set(0, 2, 1);
        x.set(0, 0, -1);
        CHECK.due("factor(0)", x.factor(0), 1);
        x.set(1, 1, 1);
        CHECK.due("split(0, 1)", x.split(0, 1), 1);
        CHECK.due("part(0, 100)", x.part(0, 100), 6);
        CHECK.part("the first part", x, 0, 1, 1, 6, 1);
        CHECK.due("product(2)", x.product(2), 3);
        CHECK.register("x^2 - 1 again", x, 2, 6, 0, 1);
    }

    private static void field(PrimePolynomials x) {
        x.set(3, 2, 1);
        x.set(3, 0, 1);
        CHECK.due("field(3)", x.field(3), 2);
        CHECK.due("inverse(4, 1)", x.inverse(4, 1), 2);
        CHECK.register("6 * x", x, 4, 0, 6);
        CHECK.due("times(5, 4, 1)", x.times(5, 4, 1), 1);
        CHECK.register("1", x, 5, 1);
        CHECK.due("trace(1, true)", x.trace(1, true), 1);
    }
}
