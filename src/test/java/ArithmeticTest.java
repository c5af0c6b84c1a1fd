/** Promises 7 to 12: add, multiply, divide, common, power and derive. */
public final class ArithmeticTest {
    private static final int NONE = PrimePolynomials.NONE;
    private static final int FULL = PrimePolynomials.FULL;
    private static final int[] NO_REGISTER = {-1, 8, Integer.MIN_VALUE, Integer.MAX_VALUE};
    private static final Check CHECK = new Check();

    public static void main(String[] args) {
        adding();
        multiplying();
        dividing();
        commons();
        powers();
        deriving();
        wrongRegisters();
        greatestPrime();
        CHECK.end();
    }

    private static void adding() {
        PrimePolynomials x = Check.with(7, Check.row(1, 2, 3), Check.row(6, 0, 4, 5));
        CHECK.due("add(2, 0, 1, 1)", x.add(2, 0, 1, 1), 4);
        CHECK.register("sum", x, 2, 0, 2, 0, 5);
        CHECK.due("add(2, 0, 1, -1)", x.add(2, 0, 1, -1), 4);
        CHECK.register("difference", x, 2, 2, 2, 6, 2);
        CHECK.due("add(2, 0, 1, 14)", x.add(2, 0, 1, 14), 3);
        CHECK.register("factor 0", x, 2, 1, 2, 3);
        CHECK.due("add(0, 0, 0, 6)", x.add(0, 0, 0, 6), 0);
        CHECK.register("to 0", x, 0);
        CHECK.due("add(1, 1, 1, 1)", x.add(1, 1, 1, 1), 4);
        CHECK.register("twice itself", x, 1, 5, 0, 1, 3);
        CHECK.due("add(2, 0, 2, 2)", x.add(2, 0, 2, 2), 3);
        CHECK.register("in place of y", x, 2, 2, 4, 6);
        CHECK.due("add(2, 0, 2, MIN)", x.add(2, 0, 2, Integer.MIN_VALUE), 3);
        CHECK.register("least factor", x, 2, 3, 6, 2);
    }

    private static void multiplying() {
        PrimePolynomials x = Check.with(5, Check.row(1, 2), Check.row(3, 0, 4));
        CHECK.due("multiply(2, 0, 1)", x.multiply(2, 0, 1), 4);
        CHECK.register("product", x, 2, 3, 1, 4, 3);
        CHECK.due("multiply(0, 0, 0)", x.multiply(0, 0, 0), 3);
        CHECK.register("square in place", x, 0, 1, 4, 4);
        CHECK.due("multiply(1, 0, 1)", x.multiply(1, 0, 1), 5);
        CHECK.register("in place of y", x, 1, 3, 2, 1, 1, 1);
        x = new PrimePolynomials(5);
        x.set(0, 8, 2);
        x.set(1, 7, 3);
        x.set(2, 15, 4);
        x.set(3, 0, 2);
        CHECK.due("multiply(4, 0, 1)", x.multiply(4, 0, 1), 16);
        CHECK.register("degree 15", x, 4, 0, 0, 0, 0, 0, 0, 0, 0, 0, 0, 0, 0, 0, 0, 0, 1);
        CHECK.due("multiply(4, 0, 0)", x.multiply(4, 0, 0), FULL);
        CHECK.due("multiply(4, 2, 2)", x.multiply(4, 2, 2), FULL);
        CHECK.due("multiply(0, 0, 0)", x.multiply(0, 0, 0), FULL);
        CHECK.register("FULL changes nothing", x, 4, 0, 0, 0, 0, 0, 0, 0, 0, 0, 0, 0, 0, 0, 0, 0, 1);
        CHECK.register("FULL changes nothing", x, 0, 0, 0, 0, 0, 0, 0, 0, 0, 2);
        CHECK.due("multiply(8, 2, 2)", x.multiply(8, 2, 2), NONE);
        CHECK.due("multiply(5, 2, 3)", x.multiply(5, 2, 3), 16);
        CHECK.due("coefficient(5, 15)", x.coefficient(5, 15), 3);
        CHECK.due("multiply(4, 2, 7)", x.multiply(4, 2, 7), 0);
        CHECK.register("times 0", x, 4);
        CHECK.due("multiply(5, 7, 7)", x.multiply(5, 7, 7), 0);
        CHECK.register("0 times 0", x, 5);
    }

    private static void dividing() {
        // x^4 + 3x^3 + 5x + 3 = (4x^2 + 5x + 3) * (2x^2 + 2) + (2x + 4) modulo 7
        PrimePolynomials x = Check.with(7, Check.row(3, 5, 0, 3, 1), Check.row(2, 0, 2));
        CHECK.due("divide(2, 3, 0, 1)", x.divide(2, 3, 0, 1), 2);
        CHECK.register("quotient", x, 2, 3, 5, 4);
        CHECK.register("rest", x, 3, 4, 2);
        CHECK.due("divide(4, 4, 0, 1)", x.divide(4, 4, 0, 1), 2);
        CHECK.register("the rest comes last", x, 4, 4, 2);
        CHECK.due("divide(5, 6, 1, 0)", x.divide(5, 6, 1, 0), 3);
        CHECK.register("quotient 0", x, 5);
        CHECK.register("rest is all", x, 6, 2, 0, 2);
        CHECK.due("divide(1, 0, 0, 1)", x.divide(1, 0, 0, 1), 2);
        CHECK.register("quotient in place of y", x, 1, 3, 5, 4);
        CHECK.register("rest in place of x", x, 0, 4, 2);
        CHECK.due("divide(0, 1, 0, 7)", x.divide(0, 1, 0, 7), NONE);
        CHECK.due("divide(7, 7, 7, 7)", x.divide(7, 7, 7, 7), NONE);
        CHECK.register("NONE changes nothing", x, 1, 3, 5, 4);
        CHECK.register("NONE changes nothing", x, 0, 4, 2);
        CHECK.due("divide(2, 3, 7, 0)", x.divide(2, 3, 7, 0), 0);
        CHECK.register("0 by another", x, 2);
        CHECK.register("0 by another", x, 3);
        x.set(7, 0, 3);
        CHECK.due("divide(2, 3, 1, 7)", x.divide(2, 3, 1, 7), 0);
        CHECK.register("by a number", x, 2, 1, 4, 6);
        CHECK.due("divide(2, 3, 1, 1)", x.divide(2, 3, 1, 1), 0);
        CHECK.register("by itself", x, 2, 1);
        CHECK.due("divide(1, 1, 1, 1)", x.divide(1, 1, 1, 1), 0);
        CHECK.register("by itself, all in one", x, 1);
        x = new PrimePolynomials(7);
        x.set(0, 15, 3);
        x.set(1, 0, 2);
        CHECK.due("divide(2, 3, 0, 1)", x.divide(2, 3, 0, 1), 0);
        CHECK.register("degree 15 by a number", x, 2, 0, 0, 0, 0, 0, 0, 0, 0, 0, 0, 0, 0, 0, 0, 0, 5);
    }

    private static void commons() {
        // (x - 1)(x - 2) * 3 and (x - 2)(x - 3) * 5
        PrimePolynomials x = Check.with(7, Check.row(6, 5, 3), Check.row(2, 3, 5), Check.row(0, 0, 0, 4), Check.row(5));
        CHECK.due("common(4, 0, 1)", x.common(4, 0, 1), 2);
        CHECK.register("common", x, 4, 5, 1);
        CHECK.due("common(4, 0, 2)", x.common(4, 0, 2), 1);
        CHECK.register("nothing common", x, 4, 1);
        CHECK.due("common(4, 3, 3)", x.common(4, 3, 3), 1);
        CHECK.register("numbers", x, 4, 1);
        CHECK.due("common(4, 3, 7)", x.common(4, 3, 7), 1);
        CHECK.register("number and 0", x, 4, 1);
        CHECK.due("common(4, 0, 7)", x.common(4, 0, 7), 3);
        CHECK.register("with 0 it is monic", x, 4, 2, 4, 1);
        CHECK.due("common(4, 7, 2)", x.common(4, 7, 2), 4);
        CHECK.register("0 with it", x, 4, 0, 0, 0, 1);
        CHECK.due("common(4, 7, 6)", x.common(4, 7, 6), 0);
        CHECK.register("both 0", x, 4);
        CHECK.due("common(1, 1, 1)", x.common(1, 1, 1), 3);
        CHECK.register("in place", x, 1, 6, 2, 1);
        CHECK.due("common(1, 0, 1)", x.common(1, 0, 1), 2);
        CHECK.register("in place of y", x, 1, 5, 1);
    }

    private static void powers() {
        // modulo 7 and 2x^2 + 2: x^2 is -1
        PrimePolynomials x = Check.with(7, Check.row(0, 1), Check.row(2, 0, 2), Check.row(1, 1), Check.row(4));
        CHECK.due("power(4, 0, 2, 1)", x.power(4, 0, 2, 1), 1);
        CHECK.register("x^2", x, 4, 6);
        CHECK.due("power(4, 0, 3, 1)", x.power(4, 0, 3, 1), 2);
        CHECK.register("x^3", x, 4, 0, 6);
        CHECK.due("power(4, 2, 1, 1)", x.power(4, 2, 1, 1), 2);
        CHECK.register("(x + 1)^1", x, 4, 1, 1);
        CHECK.due("power(4, 0, MAX, 1)", x.power(4, 0, Long.MAX_VALUE, 1), 2);
        CHECK.register("x^(2^63 - 1)", x, 4, 0, 6);
        CHECK.due("power(4, 0, 2^62, 1)", x.power(4, 0, 1L << 62, 1), 1);
        CHECK.register("x^(2^62)", x, 4, 1);
        CHECK.due("power(4, 7, 0, 1)", x.power(4, 7, 0, 1), 1);
        CHECK.register("0^0", x, 4, 1);
        CHECK.due("power(4, 7, 9, 1)", x.power(4, 7, 9, 1), 0);
        CHECK.register("0^9", x, 4);
        CHECK.due("power(4, 2, 0, 3)", x.power(4, 2, 0, 3), 0);
        CHECK.register("1 by a number", x, 4);
        CHECK.due("power(4, 2, 5, 3)", x.power(4, 2, 5, 3), 0);
        CHECK.due("power(4, 1, 1, 1)", x.power(4, 1, 1, 1), 0);
        CHECK.due("power(2, 2, 2, 1)", x.power(2, 2, 2, 1), 2);
        CHECK.register("in place", x, 2, 0, 2);
        CHECK.due("power(1, 2, 2, 1)", x.power(1, 2, 2, 1), 1);
        CHECK.register("in place of m", x, 1, 3);
        CHECK.due("power(2, 0, 2, 7)", x.power(2, 0, 2, 7), NONE);
        CHECK.due("power(2, 0, -1, 1)", x.power(2, 0, -1, 1), NONE);
        CHECK.due("power(2, 0, MIN, 1)", x.power(2, 0, Long.MIN_VALUE, 1), NONE);
        CHECK.register("NONE changes nothing", x, 2, 0, 2);
    }

    private static void deriving() {
        PrimePolynomials x = Check.with(5, Check.row(4, 3, 2, 1, 4, 3, 2), Check.row(3), Check.row(1, 0, 0, 0, 0, 2));
        CHECK.due("derive(3, 0)", x.derive(3, 0), 6);
        CHECK.register("derivative", x, 3, 3, 4, 3, 1, 0, 2);
        CHECK.due("derive(3, 1)", x.derive(3, 1), 0);
        CHECK.register("of a number", x, 3);
        CHECK.due("derive(3, 2)", x.derive(3, 2), 0);
        CHECK.register("of a power by P", x, 3);
        CHECK.due("derive(3, 7)", x.derive(3, 7), 0);
        CHECK.due("derive(0, 0)", x.derive(0, 0), 6);
        CHECK.register("in place", x, 0, 3, 4, 3, 1, 0, 2);
        x.set(4, 15, 1);
        x.set(4, 14, 1);
        CHECK.due("derive(4, 4)", x.derive(4, 4), 14);
        CHECK.register("from degree 15", x, 4, 0, 0, 0, 0, 0, 0, 0, 0, 0, 0, 0, 0, 0, 4);
    }

    private static void wrongRegisters() {
        PrimePolynomials x = Check.with(7, Check.row(1, 2, 3), Check.row(4, 5));
        for (int r : NO_REGISTER) {
            CHECK.due("add(" + r + ", 0, 1, 1)", x.add(r, 0, 1, 1), NONE);
            CHECK.due("add(0, " + r + ", 1, 1)", x.add(0, r, 1, 1), NONE);
            CHECK.due("add(0, 1, " + r + ", 1)", x.add(0, 1, r, 1), NONE);
            CHECK.due("multiply(" + r + ", 0, 1)", x.multiply(r, 0, 1), NONE);
            CHECK.due("multiply(0, " + r + ", 1)", x.multiply(0, r, 1), NONE);
            CHECK.due("multiply(0, 1, " + r + ")", x.multiply(0, 1, r), NONE);
            CHECK.due("divide(" + r + ", 1, 0, 1)", x.divide(r, 1, 0, 1), NONE);
            CHECK.due("divide(0, " + r + ", 0, 1)", x.divide(0, r, 0, 1), NONE);
            CHECK.due("divide(0, 1, " + r + ", 1)", x.divide(0, 1, r, 1), NONE);
            CHECK.due("divide(0, 1, 0, " + r + ")", x.divide(0, 1, 0, r), NONE);
            CHECK.due("common(" + r + ", 0, 1)", x.common(r, 0, 1), NONE);
            CHECK.due("common(0, " + r + ", 1)", x.common(0, r, 1), NONE);
            CHECK.due("common(0, 1, " + r + ")", x.common(0, 1, r), NONE);
            CHECK.due("power(" + r + ", 0, 2, 1)", x.power(r, 0, 2, 1), NONE);
            CHECK.due("power(0, " + r + ", 2, 1)", x.power(0, r, 2, 1), NONE);
            CHECK.due("power(0, 1, 2, " + r + ")", x.power(0, 1, 2, r), NONE);
            CHECK.due("derive(" + r + ", 0)", x.derive(r, 0), NONE);
            CHECK.due("derive(0, " + r + ")", x.derive(0, r), NONE);
        }
        CHECK.register("nothing is changed", x, 0, 1, 2, 3);
        CHECK.register("nothing is changed", x, 1, 4, 5);
    }

    private static void greatestPrime() {
        int p = Integer.MAX_VALUE;
        PrimePolynomials x = new PrimePolynomials(p);
        for (int i = 0; i < 8; i++) {
            x.set(0, i, -1);
            x.set(1, i, -1);
        }
        CHECK.due("multiply(2, 0, 1)", x.multiply(2, 0, 1), 15);
        CHECK.register("squares of -1", x, 2, 1, 2, 3, 4, 5, 6, 7, 8, 7, 6, 5, 4, 3, 2, 1);
        CHECK.due("add(3, 0, 1, -1)", x.add(3, 0, 1, -1), 0);
        CHECK.due("add(3, 0, 1, -2)", x.add(3, 0, 1, -2), 8);
        CHECK.register("-1 + 2", x, 3, 1, 1, 1, 1, 1, 1, 1, 1);
        CHECK.due("divide(4, 5, 2, 3)", x.divide(4, 5, 2, 3), 0);
        CHECK.register("quotient", x, 4, 1, 1, 1, 1, 1, 1, 1, 1);
        CHECK.due("common(4, 2, 0)", x.common(4, 2, 0), 8);
        CHECK.register("monic", x, 4, 1, 1, 1, 1, 1, 1, 1, 1);
        CHECK.due("derive(4, 0)", x.derive(4, 0), 7);
        CHECK.register("derivative", x, 4, p - 1, p - 2, p - 3, p - 4, p - 5, p - 6, p - 7);
        // By Fermat x^P is x by x - a for any a.
        x.set(6, 1, 1);
        x.set(6, 0, -12345);
        x.set(7, 1, 1);
        CHECK.due("power(5, 7, P, 6)", x.power(5, 7, p, 6), 1);
        CHECK.register("x^P by x - a", x, 5, 12345);
        CHECK.due("power(5, 7, P - 1, 6)", x.power(5, 7, p - 1, 6), 1);
        CHECK.register("x^(P - 1) by x - a", x, 5, 1);
    }
}
