/** The boundaries that promises 7 to 12 name; above each test stands the sentence that it is for. */
public final class ArithmeticBoundaryTest {
    private static final int MIN = Integer.MIN_VALUE;
    private static final int MAX = Integer.MAX_VALUE;
    private static final Check CHECK = new Check();
    private static final Scene SCENE = new Scene(CHECK);

    public static void main(String[] args) {
        addFactorModulo();
        addAnswersTheSize();
        addInPlace();
        addRefused();
        multiplyUpToDegree15();
        multiplyByZero();
        multiplyInPlace();
        multiplyFull();
        multiplyRefused();
        divideRestBelow();
        divideLowerDegree();
        divideByNumber();
        divideZero();
        divideSameRegister();
        divideInPlace();
        divideRefused();
        commonOfZeros();
        commonIsMonic();
        commonInPlace();
        commonRefused();
        powerZero();
        powerOfZero();
        powerGreatest();
        powerByNumber();
        powerInPlace();
        powerRefused();
        deriveLowers();
        deriveMultiplesOfP();
        deriveInPlace();
        deriveRefused();
        CHECK.end();
    }

    /** x^15 times the number, as a row. */
    private static int[] degree15(int number) {
        int[] row = new int[16];
        row[15] = number;
        return row;
    }

    /** Promise 7: "x + y * factor (factor modulo P as for set())" */
    private static void addFactorModulo() {
        int[][] due = {
            {0, 0}, {7, 0}, {-7, 0}, {1, 1}, {8, 1}, {-6, 1}, {6, 6}, {-1, 6}, {13, 6}, {MAX, 1}, {MAX - 1, 0}, {MIN, 5},
            {MIN + 1, 6}, {MIN + 2, 0}};
        for (int[] pair : due) {
            PrimePolynomials x = Check.with(7, Check.row(0, 0, 1), Check.row(1));
            CHECK.due("add(2, 0, 1, " + pair[0] + ")", x.add(2, 0, 1, pair[0]), 3);
            CHECK.register("x^2 + " + pair[0], x, 2, pair[1], 0, 1);
        }
        PrimePolynomials x = Check.with(MAX, Check.row(-1, 1), Check.row(-1));
        CHECK.due("add(2, 0, 1, -1)", x.add(2, 0, 1, -1), 2);
        CHECK.register("-1 + 1 modulo the greatest P", x, 2, 0, 1);
        CHECK.due("add(2, 0, 1, P)", x.add(2, 0, 1, MAX), 2);
        CHECK.register("factor 0", x, 2, MAX - 1, 1);
        CHECK.due("add(2, 0, 1, MIN), a factor -1", x.add(2, 0, 1, MIN), 2);
        CHECK.register("factor -1", x, 2, 0, 1);
        CHECK.due("add(2, 0, 1, 1)", x.add(2, 0, 1, 1), 2);
        CHECK.register("-2", x, 2, MAX - 2, 1);
        x = Check.with(2, Check.row(1, 1), Check.row(1, 0, 1));
        CHECK.due("add(2, 0, 1, -1)", x.add(2, 0, 1, -1), 3);
        CHECK.register("modulo 2 a difference is a sum", x, 2, 0, 1, 1);
        CHECK.due("add(2, 0, 1, 2)", x.add(2, 0, 1, 2), 2);
        CHECK.register("2 is 0", x, 2, 1, 1);
    }

    /** Promise 7: "its size", also where coefficients at the degree make 0. */
    private static void addAnswersTheSize() {
        PrimePolynomials x = Check.with(7, degree15(3), degree15(4), Check.row(2, 1));
        CHECK.due("add(3, 0, 1, 0), of degree 15", x.add(3, 0, 1, 0), 16);
        CHECK.due("add(3, 0, 1, 2), of degree 15", x.add(3, 0, 1, 2), 16);
        CHECK.register("3 + 8", x, 3, degree15(4));
        CHECK.due("add(3, 0, 1, 1), they make 0", x.add(3, 0, 1, 1), 0);
        CHECK.register("3 + 4", x, 3);
        x.add(0, 0, 2, 1);
        CHECK.due("add(3, 0, 1, 1), only those at the degree make 0", x.add(3, 0, 1, 1), 2);
        CHECK.register("the others are left", x, 3, 2, 1);
        CHECK.due("add(3, 7, 7, 1)", x.add(3, 7, 7, 1), 0);
        CHECK.register("0 + 0", x, 3);
        CHECK.due("add(3, 7, 2, 3)", x.add(3, 7, 2, 3), 2);
        CHECK.register("0 + y * 3", x, 3, 6, 3);
        CHECK.due("add(3, 2, 7, 3)", x.add(3, 2, 7, 3), 2);
        CHECK.register("x + 0", x, 3, 2, 1);
    }

    /** Promise 7, register d being one of the others, or all of them. */
    private static void addInPlace() {
        PrimePolynomials x = Check.with(7, Check.row(1, 2), Check.row(3, 0, 4));
        CHECK.due("add(0, 0, 1, 2)", x.add(0, 0, 1, 2), 3);
        CHECK.register("in place of x", x, 0, 0, 2, 1);
        CHECK.register("y stays", x, 1, 3, 0, 4);
        CHECK.due("add(1, 0, 1, 5)", x.add(1, 0, 1, 5), 2);
        CHECK.register("in place of y", x, 1, 1, 2);
        CHECK.register("x stays", x, 0, 0, 2, 1);
        CHECK.due("add(0, 0, 0, -1)", x.add(0, 0, 0, -1), 0);
        CHECK.register("all in one", x, 0);
    }

    /** Promise 7: "NONE: no such register." */
    private static void addRefused() {
        for (int r : Scene.NO_REGISTER) {
            SCENE.none("add(" + r + ", 1, 2, 1)", x -> x.add(r, 1, 2, 1));
            SCENE.none("add(1, " + r + ", 2, 1)", x -> x.add(1, r, 2, 1));
            SCENE.none("add(1, 2, " + r + ", 1)", x -> x.add(1, 2, r, 1));
            SCENE.none("add(1, 2, " + r + ", 0)", x -> x.add(1, 2, r, 0));
        }
    }

    /** Promise 8: "its size", up to the greatest degree that there is. */
    private static void multiplyUpToDegree15() {
        for (int n = 0; n <= 15; n++) {
            PrimePolynomials x = new PrimePolynomials(7);
            x.set(0, n, 3);
            x.set(1, 15 - n, 3);
            CHECK.due("degrees " + n + " and " + (15 - n), x.multiply(2, 0, 1), 16);
            CHECK.register("degrees " + n + " and " + (15 - n), x, 2, degree15(2));
        }
        PrimePolynomials x = Check.with(MAX, Check.row(-1, -1), Check.row(-1));
        CHECK.due("multiply(2, 0, 0)", x.multiply(2, 0, 0), 3);
        CHECK.register("(-1 - x)^2 modulo the greatest P", x, 2, 1, 2, 1);
        CHECK.due("multiply(2, 1, 1)", x.multiply(2, 1, 1), 1);
        CHECK.register("(-1)^2", x, 2, 1);
    }

    /** Promise 8: 0 has no degree that could be above 15 with another. */
    private static void multiplyByZero() {
        PrimePolynomials x = Check.with(7, degree15(3), Check.row(), Check.row(1));
        CHECK.due("multiply(2, 0, 1)", x.multiply(2, 0, 1), 0);
        CHECK.register("x^15 times 0", x, 2);
        x.set(2, 0, 1);
        CHECK.due("multiply(2, 1, 0)", x.multiply(2, 1, 0), 0);
        CHECK.register("0 times x^15", x, 2);
        x.set(2, 0, 1);
        CHECK.due("multiply(2, 1, 1)", x.multiply(2, 1, 1), 0);
        CHECK.register("0 times 0", x, 2);
    }

    /** Promise 8, register d being one of the others, or all of them. */
    private static void multiplyInPlace() {
        PrimePolynomials x = Check.with(7, Check.row(1, 2), Check.row(3, 0, 4));
        CHECK.due("multiply(0, 0, 1)", x.multiply(0, 0, 1), 4);
        CHECK.register("in place of x", x, 0, 3, 6, 4, 1);
        CHECK.register("y stays", x, 1, 3, 0, 4);
        CHECK.due("multiply(1, 0, 1)", x.multiply(1, 0, 1), 6);
        CHECK.register("in place of y", x, 1, 2, 4, 3, 6, 2, 4);
        CHECK.register("x stays", x, 0, 3, 6, 4, 1);
        CHECK.due("multiply(0, 0, 0)", x.multiply(0, 0, 0), 7);
        CHECK.register("all in one", x, 0, 2, 1, 4, 5, 0, 1, 1);
    }

    /** Promise 8: "FULL" - "where a degree would be above 15; then nothing is changed" */
    private static void multiplyFull() {
        SCENE.full("degrees 8 and 8", x -> x.multiply(1, 5, 5));
        SCENE.full("degrees 8 and 8, all in one", x -> x.multiply(5, 5, 5));
        SCENE.full("degrees 15 and 1", x -> x.multiply(2, 6, 1));
        SCENE.full("degrees 1 and 15", x -> x.multiply(2, 1, 6));
        SCENE.full("degrees 15 and 1, in place of y", x -> x.multiply(1, 6, 1));
        SCENE.full("degrees 15 and 1, in place of x", x -> x.multiply(6, 6, 1));
        SCENE.full("degrees 15 and 15", x -> x.multiply(0, 6, 6));
        SCENE.full("degrees 15 and 8", x -> x.multiply(7, 6, 5));
        for (int n = 1; n <= 15; n++) {
            PrimePolynomials x = new PrimePolynomials(2);
            x.set(0, n, 1);
            x.set(1, 16 - n, 1);
            CHECK.due("degrees " + n + " and " + (16 - n), x.multiply(2, 0, 1), PrimePolynomials.FULL);
            CHECK.register("degrees " + n + " and " + (16 - n), x, 2);
        }
    }

    /** Promise 8: "NONE: no such register", also where it would be too much besides. */
    private static void multiplyRefused() {
        for (int r : Scene.NO_REGISTER) {
            SCENE.none("multiply(" + r + ", 1, 2)", x -> x.multiply(r, 1, 2));
            SCENE.none("multiply(1, " + r + ", 2)", x -> x.multiply(1, r, 2));
            SCENE.none("multiply(1, 2, " + r + ")", x -> x.multiply(1, 2, r));
            SCENE.none("multiply(" + r + ", 6, 6)", x -> x.multiply(r, 6, 6));
        }
    }

    /** Terms: "a = q * b + r, the degree of r being less than that of b" */
    private static void divideRestBelow() {
        // 3x^2 + 5x + 1 = 5 * (2x^2 + 4) + (5x + 2) modulo 7
        PrimePolynomials x = Check.with(7, Check.row(1, 5, 3), Check.row(4, 0, 2), Check.row(2, 0, 1));
        CHECK.due("divide(3, 4, 0, 1), of the same degree", x.divide(3, 4, 0, 1), 2);
        CHECK.register("quotient", x, 3, 5);
        CHECK.register("rest", x, 4, 2, 5);
        CHECK.due("divide(3, 4, 1, 2), a multiple", x.divide(3, 4, 1, 2), 0);
        CHECK.register("quotient", x, 3, 2);
        CHECK.register("rest", x, 4);
        x = Check.with(7, degree15(3), degree15(5), Check.row(-1, 1), Check.row(0, 2));
        CHECK.due("divide(4, 5, 0, 1), of degree 15 both", x.divide(4, 5, 0, 1), 0);
        CHECK.register("3 / 5", x, 4, 2);
        CHECK.register("rest", x, 5);
        CHECK.due("divide(4, 5, 0, 2), x^15 by x - 1", x.divide(4, 5, 0, 2), 1);
        CHECK.register("quotient", x, 4, 3, 3, 3, 3, 3, 3, 3, 3, 3, 3, 3, 3, 3, 3, 3);
        CHECK.register("the value at 1", x, 5, 3);
        CHECK.due("divide(4, 5, 0, 3), x^15 by 2x", x.divide(4, 5, 0, 3), 0);
        CHECK.register("3 / 2", x, 4, 0, 0, 0, 0, 0, 0, 0, 0, 0, 0, 0, 0, 0, 0, 5);
        x = Check.with(MAX, Check.row(-1, -1, -1), Check.row(-2, -1));
        CHECK.due("divide(2, 3, 0, 1) modulo the greatest P", x.divide(2, 3, 0, 1), 1);
        CHECK.register("x - 1", x, 2, MAX - 1, 1);
        CHECK.register("-3", x, 3, MAX - 3);
    }

    /** Terms, the same sentence: where a has the lower degree, it is itself the rest. */
    private static void divideLowerDegree() {
        PrimePolynomials x = Check.with(7, Check.row(1, 2), Check.row(3, 0, 4), degree15(1), Check.row(5), Check.row(1, 1));
        CHECK.due("divide(4, 5, 0, 1)", x.divide(4, 5, 0, 1), 2);
        CHECK.register("quotient 0", x, 4);
        CHECK.register("rest", x, 5, 1, 2);
        CHECK.due("divide(4, 5, 3, 2)", x.divide(4, 5, 3, 2), 1);
        CHECK.register("quotient 0", x, 4);
        CHECK.register("a number by x^15", x, 5, 5);
    }

    /** Terms, the same sentence: of a degree less than that of a number there is 0 alone. */
    private static void divideByNumber() {
        PrimePolynomials x = Check.with(7, Check.row(1, 2, 3), Check.row(5), degree15(2), Check.row(1), Check.row(1), Check.row(1));
        CHECK.due("divide(4, 5, 0, 1)", x.divide(4, 5, 0, 1), 0);
        CHECK.register("times 3", x, 4, 3, 6, 2);
        CHECK.register("rest", x, 5);
        CHECK.due("divide(4, 5, 2, 1)", x.divide(4, 5, 2, 1), 0);
        CHECK.register("degree 15 by a number", x, 4, degree15(6));
        CHECK.due("divide(4, 5, 1, 1)", x.divide(4, 5, 1, 1), 0);
        CHECK.register("a number by a number", x, 4, 1);
        CHECK.due("divide(4, 5, 0, 3)", x.divide(4, 5, 0, 3), 0);
        CHECK.register("by 1", x, 4, 1, 2, 3);
    }

    /** Promise 9: only y must not be 0. */
    private static void divideZero() {
        PrimePolynomials x = Check.with(7, Check.row(), Check.row(3, 1), Check.row(1), Check.row(1));
        CHECK.due("divide(2, 3, 0, 1)", x.divide(2, 3, 0, 1), 0);
        CHECK.register("quotient", x, 2);
        CHECK.register("rest", x, 3);
    }

    /** Promise 9: "(q first, if they are the same: it is the rest then)" */
    private static void divideSameRegister() {
        for (int same = 0; same < 8; same++) {
            PrimePolynomials x = Check.with(7, Check.row(3, 5, 0, 3, 1), Check.row(2, 0, 2));
            CHECK.due("divide(" + same + ", " + same + ", 0, 1)", x.divide(same, same, 0, 1), 2);
            CHECK.register("divide(" + same + ", " + same + ", 0, 1)", x, same, 4, 2);
        }
        PrimePolynomials x = Check.with(7, Check.row(3, 5, 1));
        CHECK.due("divide(0, 0, 0, 0)", x.divide(0, 0, 0, 0), 0);
        CHECK.register("all in one: the rest 0, not the quotient 1", x, 0);
    }

    /** Promise 9, registers q and r being x and y. */
    private static void divideInPlace() {
        int[] a = {3, 5, 0, 3, 1};
        int[] b = {2, 0, 2};
        int[] quotient = {3, 5, 4};
        int[] rest = {4, 2};
        PrimePolynomials x = Check.with(7, a, b);
        CHECK.due("divide(0, 1, 0, 1)", x.divide(0, 1, 0, 1), 2);
        CHECK.register("quotient in place of x", x, 0, quotient);
        CHECK.register("rest in place of y", x, 1, rest);
        x = Check.with(7, a, b);
        CHECK.due("divide(1, 0, 0, 1)", x.divide(1, 0, 0, 1), 2);
        CHECK.register("quotient in place of y", x, 1, quotient);
        CHECK.register("rest in place of x", x, 0, rest);
        x = Check.with(7, a, b);
        CHECK.due("divide(2, 1, 0, 1)", x.divide(2, 1, 0, 1), 2);
        CHECK.register("x stays", x, 0, a);
        CHECK.register("rest in place of y", x, 1, rest);
        CHECK.register("quotient", x, 2, quotient);
        x = Check.with(7, a);
        CHECK.due("divide(0, 1, 0, 0)", x.divide(0, 1, 0, 0), 0);
        CHECK.register("by itself", x, 0, 1);
    }

    /** Promise 9: "NONE: no such register, or y is 0." */
    private static void divideRefused() {
        for (int r : Scene.NO_REGISTER) {
            SCENE.none("divide(" + r + ", 1, 5, 3)", x -> x.divide(r, 1, 5, 3));
            SCENE.none("divide(1, " + r + ", 5, 3)", x -> x.divide(1, r, 5, 3));
            SCENE.none("divide(1, 2, " + r + ", 3)", x -> x.divide(1, 2, r, 3));
            SCENE.none("divide(1, 2, 5, " + r + ")", x -> x.divide(1, 2, 5, r));
            SCENE.none("divide(" + r + ", " + r + ", 5, 3)", x -> x.divide(r, r, 5, 3));
        }
        SCENE.none("divide(1, 2, 5, 7), by 0", x -> x.divide(1, 2, 5, 7));
        SCENE.none("divide(1, 2, 4, 7), a number by 0", x -> x.divide(1, 2, 4, 7));
        SCENE.none("divide(1, 2, 7, 7), 0 by 0", x -> x.divide(1, 2, 7, 7));
        SCENE.none("divide(1, 1, 6, 7), by 0 into one", x -> x.divide(1, 1, 6, 7));
    }

    /** Terms: "0 when both are 0" */
    private static void commonOfZeros() {
        PrimePolynomials x = Check.with(7, Check.row(), Check.row(), Check.row(4, 1));
        CHECK.due("common(2, 0, 1)", x.common(2, 0, 1), 0);
        CHECK.register("0 and 0", x, 2);
        CHECK.due("common(0, 0, 0)", x.common(0, 0, 0), 0);
        CHECK.register("all in one", x, 0);
    }

    /** Terms: "the monic one of greatest degree that divides both" */
    private static void commonIsMonic() {
        PrimePolynomials x = Check.with(7, Check.row(), Check.row(5), Check.row(6, 3), degree15(4), Check.row(6, 5, 3));
        int[][] due = {
            {1, 0, 1}, {0, 1, 1}, {1, 1, 1}, {1, 2, 1}, {2, 1, 1}, {2, 3, 1}, {3, 2, 1}, {4, 3, 1}, {1, 3, 1}};
        for (int[] row : due) {
            CHECK.due("common(7, " + row[0] + ", " + row[1] + ")", x.common(7, row[0], row[1]), 1);
            CHECK.due("coefficient(7, 0)", x.coefficient(7, 0), row[2]);
        }
        CHECK.due("common(7, 2, 0)", x.common(7, 2, 0), 2);
        CHECK.register("3x + 6 with 0", x, 7, 2, 1);
        CHECK.due("common(7, 0, 2)", x.common(7, 0, 2), 2);
        CHECK.register("0 with 3x + 6", x, 7, 2, 1);
        CHECK.due("common(7, 2, 2)", x.common(7, 2, 2), 2);
        CHECK.register("3x + 6 with itself", x, 7, 2, 1);
        CHECK.due("common(7, 3, 3)", x.common(7, 3, 3), 16);
        CHECK.register("degree 15 with itself", x, 7, degree15(1));
        CHECK.due("common(7, 3, 0)", x.common(7, 3, 0), 16);
        CHECK.register("degree 15 with 0", x, 7, degree15(1));
        x.set(5, 1, 1);
        x.set(5, 0, -1);
        CHECK.due("common(7, 4, 5), one divides the other", x.common(7, 4, 5), 2);
        CHECK.register("x - 1", x, 7, 6, 1);
        CHECK.due("common(7, 5, 4)", x.common(7, 5, 4), 2);
        CHECK.register("x - 1", x, 7, 6, 1);
    }

    /** Promise 10, register d being one of the others. */
    private static void commonInPlace() {
        // (x - 1)(x - 2) * 3 and (x - 2)(x - 3) * 5
        PrimePolynomials x = Check.with(7, Check.row(6, 5, 3), Check.row(2, 3, 5));
        CHECK.due("common(0, 0, 1)", x.common(0, 0, 1), 2);
        CHECK.register("in place of x", x, 0, 5, 1);
        CHECK.register("y stays", x, 1, 2, 3, 5);
        CHECK.due("common(1, 0, 1)", x.common(1, 0, 1), 2);
        CHECK.register("in place of y", x, 1, 5, 1);
        CHECK.register("x stays", x, 0, 5, 1);
    }

    /** Promise 10: "NONE: no such register." */
    private static void commonRefused() {
        for (int r : Scene.NO_REGISTER) {
            SCENE.none("common(" + r + ", 2, 3)", x -> x.common(r, 2, 3));
            SCENE.none("common(1, " + r + ", 3)", x -> x.common(1, r, 3));
            SCENE.none("common(1, 2, " + r + ")", x -> x.common(1, 2, r));
        }
    }

    /** Promise 11: "(x^0 is 1.)" */
    private static void powerZero() {
        PrimePolynomials x = Check.with(7, Check.row(), Check.row(5), Check.row(2, 3), Check.row(1, 0, 2), degree15(2));
        for (int of = 0; of <= 4; of++) {
            CHECK.due("power(7, " + of + ", 0, 3)", x.power(7, of, 0, 3), 1);
            CHECK.register("register " + of + " to the 0 by degree 2", x, 7, 1);
        }
        CHECK.due("power(7, 0, 0, 4)", x.power(7, 0, 0, 4), 1);
        CHECK.register("0 to the 0 by degree 15", x, 7, 1);
        CHECK.due("power(7, 2, 0, 2)", x.power(7, 2, 0, 2), 1);
        CHECK.register("to the 0 by itself", x, 7, 1);
    }

    /** Promise 11: powers of 0, and of what is 0 by m. */
    private static void powerOfZero() {
        PrimePolynomials x = Check.with(7, Check.row(), Check.row(1, 0, 2), Check.row(3, 0, 6), Check.row(1));
        for (long e : new long[] {1, 2, 7, Long.MAX_VALUE}) {
            CHECK.due("power(7, 0, " + e + ", 1)", x.power(7, 0, e, 1), 0);
            CHECK.register("0 to the " + e, x, 7);
            CHECK.due("power(7, 2, " + e + ", 1)", x.power(7, 2, e, 1), 0);
            CHECK.register("a multiple of m to the " + e, x, 7);
        }
    }

    /** Promise 11: e up to the greatest long, m up to degree 15. */
    private static void powerGreatest() {
        // by x^2 + 1: x^4 is 1, and 2^63 - 1 is 3 modulo 4
        PrimePolynomials x = Check.with(7, Check.row(0, 1), Check.row(1, 0, 1), Check.row(3), Check.row(1));
        CHECK.due("power(7, 0, MAX, 1)", x.power(7, 0, Long.MAX_VALUE, 1), 2);
        CHECK.register("x^3", x, 7, 0, 6);
        CHECK.due("power(7, 0, MAX - 1, 1)", x.power(7, 0, Long.MAX_VALUE - 1, 1), 1);
        CHECK.register("x^2", x, 7, 6);
        CHECK.due("power(7, 0, 2^32, 1)", x.power(7, 0, 1L << 32, 1), 1);
        CHECK.register("x^(2^32)", x, 7, 1);
        CHECK.due("power(7, 0, 2^32 + 1, 1)", x.power(7, 0, (1L << 32) + 1, 1), 2);
        CHECK.register("x^(2^32 + 1)", x, 7, 0, 1);
        // 3^6 is 1, and 2^63 - 1 is 1 modulo 6
        CHECK.due("power(7, 2, MAX, 1)", x.power(7, 2, Long.MAX_VALUE, 1), 1);
        CHECK.register("a number", x, 7, 3);
        x.set(4, 15, 2);
        CHECK.due("power(7, 0, 14, 4)", x.power(7, 0, 14, 4), 15);
        CHECK.register("x^14 by 2x^15", x, 7, 0, 0, 0, 0, 0, 0, 0, 0, 0, 0, 0, 0, 0, 0, 1);
        CHECK.due("power(7, 0, 15, 4)", x.power(7, 0, 15, 4), 0);
        CHECK.register("x^15 by 2x^15", x, 7);
        x.set(4, 0, 1);
        CHECK.due("power(7, 0, 15, 4)", x.power(7, 0, 15, 4), 1);
        CHECK.register("x^15 by 2x^15 + 1", x, 7, 3);
        CHECK.due("power(7, 0, 30, 4)", x.power(7, 0, 30, 4), 1);
        CHECK.register("x^30 by 2x^15 + 1", x, 7, 2);
        CHECK.due("power(7, 4, 1, 1), of degree 15", x.power(7, 4, 1, 1), 2);
        CHECK.register("1 - 2x", x, 7, 1, 5);
    }

    /** Promise 11 and the terms: the rest by a number is 0, for e = 0 too. */
    private static void powerByNumber() {
        PrimePolynomials x = Check.with(7, Check.row(2, 3), Check.row(5), Check.row(), Check.row(1));
        for (long e : new long[] {0, 1, 2, Long.MAX_VALUE}) {
            for (int of = 0; of <= 2; of++) {
                x.set(3, 0, 1);
                CHECK.due("power(3, " + of + ", " + e + ", 1)", x.power(3, of, e, 1), 0);
                CHECK.due("size(3)", x.size(3), 0);
            }
        }
        CHECK.register("by a number", x, 3);
    }

    /** Promise 11, register d being x, m, or both. */
    private static void powerInPlace() {
        PrimePolynomials x = Check.with(7, Check.row(1, 1), Check.row(2, 0, 2));
        CHECK.due("power(0, 0, 3, 1)", x.power(0, 0, 3, 1), 2);
        CHECK.register("(x + 1)^3 where x^2 is -1, in place of x", x, 0, 5, 2);
        CHECK.register("m stays", x, 1, 2, 0, 2);
        CHECK.due("power(1, 0, 1, 1)", x.power(1, 0, 1, 1), 2);
        CHECK.register("in place of m", x, 1, 5, 2);
        CHECK.register("x stays", x, 0, 5, 2);
        CHECK.due("power(1, 1, 2, 1)", x.power(1, 1, 2, 1), 0);
        CHECK.register("all in one", x, 1);
        CHECK.due("power(0, 0, 0, 0)", x.power(0, 0, 0, 0), 1);
        CHECK.register("all in one, e = 0", x, 0, 1);
    }

    /** Promise 11: "NONE: no such register, m is 0, or e is below 0." */
    private static void powerRefused() {
        for (int r : Scene.NO_REGISTER) {
            SCENE.none("power(" + r + ", 1, 2, 3)", x -> x.power(r, 1, 2, 3));
            SCENE.none("power(1, " + r + ", 2, 3)", x -> x.power(1, r, 2, 3));
            SCENE.none("power(1, " + r + ", 0, 3)", x -> x.power(1, r, 0, 3));
            SCENE.none("power(1, 2, 2, " + r + ")", x -> x.power(1, 2, 2, r));
        }
        for (long e : new long[] {0, 1, Long.MAX_VALUE}) {
            SCENE.none("power(1, 5, " + e + ", 7), by 0", x -> x.power(1, 5, e, 7));
            SCENE.none("power(1, 7, " + e + ", 7), of 0 by 0", x -> x.power(1, 7, e, 7));
        }
        for (long e : new long[] {-1, MIN, Long.MIN_VALUE, Long.MIN_VALUE + 1}) {
            SCENE.none("power(1, 5, " + e + ", 3)", x -> x.power(1, 5, e, 3));
            SCENE.none("power(1, 4, " + e + ", 4), a number", x -> x.power(1, 4, e, 4));
            SCENE.none("power(1, 7, " + e + ", 7)", x -> x.power(1, 7, e, 7));
        }
    }

    /** Promise 12: "the sum of i * ci * x^(i - 1)", from degree 0 and 0 up to degree 15 */
    private static void deriveLowers() {
        PrimePolynomials x = Check.with(17, Check.row(), Check.row(5), Check.row(5, 3), degree15(1), Check.row(1), Check.row(2));
        CHECK.due("derive(4, 0)", x.derive(4, 0), 0);
        CHECK.register("of 0", x, 4);
        CHECK.due("derive(5, 1)", x.derive(5, 1), 0);
        CHECK.register("of a number", x, 5);
        CHECK.due("derive(4, 2)", x.derive(4, 2), 1);
        CHECK.register("of degree 1", x, 4, 3);
        CHECK.due("derive(4, 3)", x.derive(4, 3), 15);
        CHECK.register("of x^15", x, 4, 0, 0, 0, 0, 0, 0, 0, 0, 0, 0, 0, 0, 0, 0, 15);
        x = Check.with(MAX, degree15(-1));
        CHECK.due("derive(1, 0)", x.derive(1, 0), 15);
        CHECK.due("coefficient(1, 14) modulo the greatest P", x.coefficient(1, 14), MAX - 15);
    }

    /** Promise 12, the same sentence: i * ci is 0 modulo P where P divides i. */
    private static void deriveMultiplesOfP() {
        for (int p : new int[] {2, 3, 5, 7, 11, 13}) {
            PrimePolynomials x = new PrimePolynomials(p);
            x.set(0, p, 1);
            x.set(0, 0, 1);
            CHECK.due("x^P + 1, P = " + p, x.derive(1, 0), 0);
            CHECK.register("x^P + 1, P = " + p, x, 1);
            x.set(0, p + 1, 1);
            CHECK.due("x^(P + 1) + x^P + 1, P = " + p, x.derive(1, 0), p + 1);
            CHECK.due("coefficient(1, P), P = " + p, x.coefficient(1, p), 1);
            CHECK.due("coefficient(1, P - 1), P = " + p, x.coefficient(1, p - 1), 0);
        }
    }

    /** Promise 12, register d being x. */
    private static void deriveInPlace() {
        PrimePolynomials x = Check.with(7, Check.row(1, 2, 3, 4));
        CHECK.due("derive(0, 0)", x.derive(0, 0), 3);
        CHECK.register("in place", x, 0, 2, 6, 5);
    }

    /** Promise 12: "NONE: no such register." */
    private static void deriveRefused() {
        for (int r : Scene.NO_REGISTER) {
            SCENE.none("derive(" + r + ", 5)", x -> x.derive(r, 5));
            SCENE.none("derive(1, " + r + ")", x -> x.derive(1, r));
        }
    }
}
