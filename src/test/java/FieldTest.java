/** Promises 18 to 21: field, times, inverse and trace. */
public final class FieldTest {
    private static final int NONE = PrimePolynomials.NONE;
    private static final int[] NO_REGISTER = {-1, 8, Integer.MIN_VALUE, Integer.MAX_VALUE};
    private static final Check CHECK = new Check();

    public static void main(String[] args) {
        withoutField();
        making();
        timesAndInverse();
        traces();
        wholeField();
        degreeOne();
        greatestPrime();
        CHECK.end();
    }

    private static void withoutField() {
        PrimePolynomials x = Check.with(7, Check.row(1, 2));
        CHECK.due("times(0, 0, 0)", x.times(0, 0, 0), NONE);
        CHECK.due("inverse(0, 0)", x.inverse(0, 0), NONE);
        CHECK.due("trace(0, false)", x.trace(0, false), NONE);
        CHECK.due("trace(0, true)", x.trace(0, true), NONE);
        CHECK.register("nothing is changed", x, 0, 1, 2);
    }

    private static void making() {
        PrimePolynomials x = Check.with(7,
            Check.row(1, 0, 1), Check.row(2, 0, 2), Check.row(6, 0, 1), Check.row(1), Check.row(0, 1), Check.row(5, 0, 0, 1));
        CHECK.due("field, not monic", x.field(1), NONE);
        CHECK.due("field, not prime", x.field(2), NONE);
        CHECK.due("field of a number", x.field(3), NONE);
        CHECK.due("field of 0", x.field(7), NONE);
        CHECK.due("no field yet", x.times(6, 4, 4), NONE);
        CHECK.due("field(0)", x.field(0), 2);
        for (int r : new int[] {1, 2, 3, 7, -1, 8, Integer.MIN_VALUE, Integer.MAX_VALUE}) {
            CHECK.due("field(" + r + ")", x.field(r), NONE);
        }
        x.set(0, 1, 3);
        CHECK.due("times(6, 4, 4)", x.times(6, 4, 4), 1);
        CHECK.register("the field stays", x, 6, 6);
        CHECK.due("field(5), another", x.field(5), 3);
        CHECK.due("times(6, 4, 4)", x.times(6, 4, 4), 3);
        CHECK.due("times(6, 6, 4)", x.times(6, 6, 4), 1);
        CHECK.register("x^3 is 2", x, 6, 2);
        CHECK.register("field changes no register", x, 5, 5, 0, 0, 1);
    }

    private static void timesAndInverse() {
        PrimePolynomials x = Check.with(7,
            Check.row(1, 0, 1), Check.row(2, 3), Check.row(0, 0, 0, 1), Check.row(3, 0, 3), Check.row(5));
        x.field(0);
        CHECK.due("times(5, 1, 1)", x.times(5, 1, 1), 2);
        CHECK.register("(2 + 3x)^2", x, 5, 2, 5);
        CHECK.due("times(5, 1, 2)", x.times(5, 1, 2), 2);
        CHECK.register("(2 + 3x) * x^3", x, 5, 3, 5);
        CHECK.due("times(5, 1, 3)", x.times(5, 1, 3), 0);
        CHECK.register("times what is 0 there", x, 5);
        CHECK.due("times(2, 2, 2)", x.times(2, 2, 2), 1);
        CHECK.register("in place", x, 2, 6);
        CHECK.due("inverse(5, 1)", x.inverse(5, 1), 2);
        CHECK.register("inverse", x, 5, 5, 3);
        CHECK.due("inverse(6, 4)", x.inverse(6, 4), 1);
        CHECK.register("of a number", x, 6, 3);
        CHECK.due("inverse(5, 3), 0 there", x.inverse(5, 3), NONE);
        CHECK.due("inverse(5, 7), 0", x.inverse(5, 7), NONE);
        CHECK.due("inverse(5, 0), 0 there", x.inverse(5, 0), NONE);
        for (int r : NO_REGISTER) {
            CHECK.due("times(" + r + ", 1, 1)", x.times(r, 1, 1), NONE);
            CHECK.due("times(5, " + r + ", 1)", x.times(5, r, 1), NONE);
            CHECK.due("times(5, 1, " + r + ")", x.times(5, 1, r), NONE);
            CHECK.due("inverse(" + r + ", 1)", x.inverse(r, 1), NONE);
            CHECK.due("inverse(5, " + r + ")", x.inverse(5, r), NONE);
            CHECK.due("trace(" + r + ", false)", x.trace(r, false), NONE);
            CHECK.due("trace(" + r + ", true)", x.trace(r, true), NONE);
        }
        CHECK.register("nothing is changed", x, 5, 5, 3);
        x.set(2, 0, 0);
        x.set(2, 15, 2);
        // x^15 is -x: twice that has the inverse x / 2
        CHECK.due("inverse(2, 2)", x.inverse(2, 2), 2);
        CHECK.register("of degree 15, in place", x, 2, 0, 4);
        x.set(6, 15, 1);
        CHECK.due("times(6, 6, 6)", x.times(6, 6, 6), 2);
        CHECK.register("(x^15 + 3)^2 = 8 - 6x", x, 6, 1, 1);
    }

    private static void traces() {
        PrimePolynomials x = Check.with(7, Check.row(1, 0, 1), Check.row(2, 3), Check.row(4), Check.row(2, 3, 1, 0, 1));
        x.field(0);
        CHECK.due("trace(1, false)", x.trace(1, false), 4);
        CHECK.due("trace(1, true)", x.trace(1, true), 6);
        CHECK.due("trace of a number", x.trace(2, false), 1);
        CHECK.due("product of a number", x.trace(2, true), 2);
        CHECK.due("trace of 0", x.trace(7, false), 0);
        CHECK.due("product of 0", x.trace(7, true), 0);
        CHECK.due("trace of what is 0 there", x.trace(0, false), 0);
        CHECK.due("product of what is 0 there", x.trace(0, true), 0);
        CHECK.due("trace by the rest", x.trace(3, false), 4);
        CHECK.due("product by the rest", x.trace(3, true), 6);
        CHECK.register("trace changes nothing", x, 3, 2, 3, 1, 0, 1);
        // By x^4 + x + 1 modulo 2 the sum for x^3 is 1, for x it is 0; the product is 1 for all but 0.
        x = Check.with(2, Check.row(1, 1, 0, 0, 1), Check.row(0, 1), Check.row(0, 0, 0, 1));
        x.field(0);
        CHECK.due("trace of x", x.trace(1, false), 0);
        CHECK.due("trace of x^3", x.trace(2, false), 1);
        CHECK.due("product of x", x.trace(1, true), 1);
        CHECK.due("product of x^3", x.trace(2, true), 1);
    }

    /** In the field of 27 each element but 0 has an inverse, and sums and products are each number as often. */
    private static void wholeField() {
        int[] sums = new int[3];
        int[] products = new int[3];
        for (int code = 0; code < 27; code++) {
            PrimePolynomials x = Check.with(3, Check.row(1, 2, 0, 1), Check.row(code % 3, code / 3 % 3, code / 9));
            CHECK.due("field(0)", x.field(0), 3);
            sums[x.trace(1, false)]++;
            products[x.trace(1, true)]++;
            if (code != 0) {
                x.inverse(2, 1);
                CHECK.due("times its inverse", x.times(3, 1, 2), 1);
                CHECK.register("element " + code, x, 3, 1);
            }
        }
        for (int n = 0; n < 3; n++) {
            CHECK.due("elements with the sum " + n, sums[n], 9);
            CHECK.due("elements with the product " + n, products[n], n == 0 ? 1 : 13);
        }
    }

    private static void degreeOne() {
        // The rests by x - 2 are the values at 2.
        PrimePolynomials x = Check.with(5, Check.row(3, 1), Check.row(1, 1, 1), Check.row(0, 4));
        CHECK.due("field(0)", x.field(0), 1);
        CHECK.due("times(3, 1, 2)", x.times(3, 1, 2), 1);
        CHECK.register("7 * 8", x, 3, 1);
        CHECK.due("inverse(3, 1)", x.inverse(3, 1), 1);
        CHECK.register("1 / 7", x, 3, 3);
        CHECK.due("trace(2, false)", x.trace(2, false), 3);
        CHECK.due("trace(2, true)", x.trace(2, true), 3);
        CHECK.due("inverse(3, 0)", x.inverse(3, 0), NONE);
    }

    private static void greatestPrime() {
        int p = Integer.MAX_VALUE;
        // x^2 + 1 is prime, as P is 3 modulo 4
        PrimePolynomials x = Check.with(p, Check.row(1, 0, 1), Check.row(-1, -1), Check.row(0, 1), Check.row(-1));
        CHECK.due("field(0)", x.field(0), 2);
        CHECK.due("times(4, 1, 1)", x.times(4, 1, 1), 2);
        CHECK.register("(1 + x)^2", x, 4, 0, 2);
        CHECK.due("trace(1, false)", x.trace(1, false), p - 2);
        CHECK.due("trace(1, true)", x.trace(1, true), 2);
        CHECK.due("trace(3, false)", x.trace(3, false), p - 2);
        CHECK.due("trace(3, true)", x.trace(3, true), 1);
        CHECK.due("inverse(5, 2)", x.inverse(5, 2), 2);
        CHECK.register("1 / x", x, 5, 0, p - 1);
        CHECK.due("inverse(5, 1)", x.inverse(5, 1), 2);
        CHECK.due("times(6, 5, 1)", x.times(6, 5, 1), 1);
        CHECK.register("makes 1", x, 6, 1);
    }
}
