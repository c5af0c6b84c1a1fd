import java.util.ArrayList;
import java.util.List;

/** The boundaries that promises 13 to 17 name; above each test stands the sentence that it is for. */
public final class PartsBoundaryTest {
    private static final int NONE = PrimePolynomials.NONE;
    private static final int MIN = Integer.MIN_VALUE;
    private static final int MAX = Integer.MAX_VALUE;
    private static final Check CHECK = new Check();
    private static final Scene SCENE = new Scene(CHECK);

    /** Prime modulo 2. */
    private static final int[] DEGREE_7 = {1, 1, 0, 0, 0, 0, 0, 1};
    private static final int[] OTHER_DEGREE_7 = {1, 0, 0, 1, 0, 0, 0, 1};
    private static final int[] DEGREE_8 = {1, 1, 0, 1, 1, 0, 0, 0, 1};
    private static final int[] DEGREE_15 = {1, 1, 0, 0, 0, 0, 0, 0, 0, 0, 0, 0, 0, 0, 0, 1};

    public static void main(String[] args) {
        primeFromDegreeOne();
        primeDividedByNumbersOnly();
        primeDividedAtHalf();
        primeOfDegree15();
        isPrimeChangesNothing();
        isPrimeRefused();
        factorNumber();
        factorDegreeOne();
        factorGreatestDegree();
        factorJustSoOften();
        factorSameOftenAndDegree();
        factorInOrder();
        factorInPlaceOfAll();
        factorChangesNoMore();
        factorRefused();
        partWhats();
        partCoefficients();
        partRefused();
        splitNothingCommon();
        splitAllCommon();
        splitLeastAndMost();
        splitByRest();
        splitTwo();
        splitThree();
        splitToTheEnd();
        splitBetweenOtherCalls();
        splitChangesNoMore();
        splitRefused();
        productOfNumber();
        productAgain();
        productOfDegree15();
        productOfLast();
        productRefused();
        CHECK.end();
    }

    private static void multiplied(PrimePolynomials x, int d, int... factors) {
        for (int factor : factors) {
            x.multiply(d, d, factor);
        }
    }

    /** Terms: "A polynomial of degree 1 or more is PRIME" */
    private static void primeFromDegreeOne() {
        for (int p : new int[] {2, 3, 7, MAX}) {
            PrimePolynomials x = Check.with(p, Check.row(), Check.row(1), Check.row(-1), Check.row(0, 1), Check.row(-1, -1));
            String modulo = " modulo " + p;
            CHECK.due("isPrime of 0" + modulo, x.isPrime(0), 0);
            CHECK.due("isPrime of 1" + modulo, x.isPrime(1), 0);
            CHECK.due("isPrime of -1" + modulo, x.isPrime(2), 0);
            CHECK.due("isPrime of x" + modulo, x.isPrime(3), 1);
            CHECK.due("isPrime of -x - 1" + modulo, x.isPrime(4), 1);
        }
    }

    /** Terms: "when none of a degree from 1 on that is less than its own divides it" */
    private static void primeDividedByNumbersOnly() {
        PrimePolynomials x = Check.with(7, Check.row(1, 0, 1), Check.row(3, 0, 3), Check.row(6, 0, 1), Check.row(0, 0, 1));
        CHECK.due("isPrime of x^2 + 1", x.isPrime(0), 1);
        CHECK.due("isPrime of 3x^2 + 3: 3 is of degree 0, the other is of its own", x.isPrime(1), 1);
        CHECK.due("isPrime of x^2 - 1", x.isPrime(2), 0);
        CHECK.due("isPrime of x^2", x.isPrime(3), 0);
    }

    /** Terms, the same sentence, where the least that divides it has just half its degree, or next to half. */
    private static void primeDividedAtHalf() {
        PrimePolynomials x = Check.with(2, DEGREE_7, OTHER_DEGREE_7, DEGREE_8);
        CHECK.due("isPrime of degree 7", x.isPrime(0), 1);
        CHECK.due("isPrime of degree 7", x.isPrime(1), 1);
        CHECK.due("isPrime of degree 8", x.isPrime(2), 1);
        x.multiply(3, 0, 1);
        CHECK.due("isPrime of degrees 7 and 7", x.isPrime(3), 0);
        x.multiply(3, 0, 0);
        CHECK.due("isPrime of a square, degree 14", x.isPrime(3), 0);
        x.multiply(3, 0, 2);
        CHECK.due("isPrime of degrees 7 and 8", x.isPrime(3), 0);
        x = Check.with(2, Check.row(0, 1, 1), Check.row(1, 0, 1), Check.row(1, 1, 1), Check.row(1, 0, 0, 1));
        CHECK.due("isPrime of degrees 1 and 1", x.isPrime(0), 0);
        CHECK.due("isPrime of a square, degree 2", x.isPrime(1), 0);
        CHECK.due("isPrime of x^2 + x + 1", x.isPrime(2), 1);
        CHECK.due("isPrime of degrees 1 and 2", x.isPrime(3), 0);
    }

    /** Promise 13 at the greatest degree; by the least degree and by the greatest P too. */
    private static void primeOfDegree15() {
        PrimePolynomials x = Check.with(2, DEGREE_15, Check.row(1, 1));
        CHECK.due("isPrime of x^15 + x + 1 modulo 2", x.isPrime(0), 1);
        x.set(0, 1, 0);
        CHECK.due("isPrime of x^15 + 1", x.isPrime(0), 0);
        x.set(0, 0, 0);
        CHECK.due("isPrime of x^15", x.isPrime(0), 0);
        // 3 makes all numbers modulo 31 by its powers, and 15 divides 30
        x = new PrimePolynomials(31);
        x.set(0, 15, 1);
        x.set(0, 0, -3);
        CHECK.due("isPrime of x^15 - 3 modulo 31", x.isPrime(0), 1);
        x.set(0, 0, -8);
        CHECK.due("isPrime of x^15 - 8: x^5 - 2 divides it", x.isPrime(0), 0);
        x = Check.with(MAX, Check.row(1, 0, 1), Check.row(-1, 0, 1), Check.row(-1, 0, -1));
        CHECK.due("isPrime of x^2 + 1 modulo the greatest P", x.isPrime(0), 1);
        CHECK.due("isPrime of x^2 - 1", x.isPrime(1), 0);
        CHECK.due("isPrime of -x^2 - 1", x.isPrime(2), 1);
    }

    /** Promise 13: it answers, and makes neither parts nor a field. */
    private static void isPrimeChangesNothing() {
        PrimePolynomials x = Scene.full();
        int[] due = {1, 1, 1, 0, 0, 0, 0, 0};
        for (int r = 0; r < due.length; r++) {
            CHECK.due("isPrime(" + r + ")", x.isPrime(r), due[r]);
        }
        SCENE.unchanged("after isPrime of all", x);
    }

    /** Promise 13: "NONE: no such register." */
    private static void isPrimeRefused() {
        for (int r : Scene.NO_REGISTER) {
            SCENE.none("isPrime(" + r + ")", x -> x.isPrime(r));
        }
    }

    /** Terms: "if there are any": of a number there are no parts. */
    private static void factorNumber() {
        for (int number : new int[] {1, 5, 6}) {
            PrimePolynomials x = Scene.full();
            x.set(Scene.NUMBER, 0, number);
            CHECK.due("factor of " + number, x.factor(Scene.NUMBER), 0);
            CHECK.due("part(0, 0)", x.part(0, 0), NONE);
            CHECK.due("part(1, 0)", x.part(1, 0), NONE);
            CHECK.due("split(0, 1)", x.split(0, 1), NONE);
        }
        PrimePolynomials x = Check.with(2, Check.row(1));
        CHECK.due("factor of 1 modulo 2", x.factor(0), 0);
        CHECK.due("part(0, 0)", x.part(0, 0), NONE);
    }

    /** Terms: "for each e and d from 1 on": 1 and 1 are the least. */
    private static void factorDegreeOne() {
        PrimePolynomials x = Check.with(7, Check.row(3, 5), Check.row(0, 4));
        CHECK.due("factor of 5x + 3", x.factor(0), 1);
        CHECK.part("monic", x, 0, 1, 1, 2, 1);
        CHECK.due("part(1, 0)", x.part(1, 0), NONE);
        CHECK.due("factor of 4x", x.factor(1), 1);
        CHECK.part("monic", x, 0, 1, 1, 0, 1);
        x = Check.with(2, Check.row(0, 1), Check.row(1, 1), Check.row(0, 1, 1));
        CHECK.due("factor of x modulo 2", x.factor(0), 1);
        CHECK.part("x", x, 0, 1, 1, 0, 1);
        CHECK.due("factor of x + 1 modulo 2", x.factor(1), 1);
        CHECK.part("x + 1", x, 0, 1, 1, 1, 1);
        CHECK.due("factor of both", x.factor(2), 1);
        CHECK.part("both", x, 0, 1, 1, 0, 1, 1);
    }

    /** Terms, the same: e and d are 15 at most. */
    private static void factorGreatestDegree() {
        for (int p : new int[] {2, 3, 5, 7, MAX}) {
            PrimePolynomials x = new PrimePolynomials(p);
            x.set(0, 15, -1);
            CHECK.due("factor of -x^15 modulo " + p, x.factor(0), 1);
            CHECK.part("x^15 modulo " + p, x, 0, 15, 1, 0, 1);
            CHECK.due("part(1, 0)", x.part(1, 0), NONE);
        }
        PrimePolynomials x = Check.with(2, DEGREE_15);
        CHECK.due("factor of a prime one of degree 15", x.factor(0), 1);
        CHECK.part("d = 15", x, 0, 1, 15, DEGREE_15);
        CHECK.due("split(0, 0), complete", x.split(0, 0), NONE);
    }

    /** Terms: "just e times (their e-th power does, the next one does not)", e being next to P and its multiples too. */
    private static void factorJustSoOften() {
        for (int p : new int[] {2, 3, 5, 7, 11, 13, 17, MAX}) {
            for (int e = 2; e <= 14; e++) {
                PrimePolynomials x = Check.with(p, Check.row(0, 1), Check.row(1, 1));
                for (int i = 0; i < e; i++) {
                    x.multiply(0, 0, 1);
                }
                String what = "x (x + 1)^" + e + " modulo " + p;
                CHECK.due("factor of " + what, x.factor(0), 2);
                CHECK.part(what, x, 0, 1, 1, 0, 1);
                CHECK.part(what, x, 1, e, 1, 1, 1);
            }
        }
        PrimePolynomials x = Check.with(2, DEGREE_7, DEGREE_7, OTHER_DEGREE_7);
        x.multiply(0, 0, 1);
        CHECK.due("factor of a square of degree 14", x.factor(0), 1);
        CHECK.part("twice", x, 0, 2, 7, DEGREE_7);
        x.multiply(1, 1, 2);
        CHECK.due("factor of two of degree 7", x.factor(1), 1);
        CHECK.due("part(0, 0)", x.part(0, 0), 1);
        CHECK.due("part(0, 1)", x.part(0, 1), 7);
        CHECK.due("part(0, 2)", x.part(0, 2), 14);
    }

    /** Terms: "the product of all monic prime polynomials of degree d that divide f just e times" */
    private static void factorSameOftenAndDegree() {
        // x^7 - x is the product of all x - a
        PrimePolynomials x = Check.with(7, Check.row(0, 6, 0, 0, 0, 0, 0, 1), Check.row(0, 1));
        CHECK.due("factor of x^7 - x", x.factor(0), 1);
        CHECK.part("all of degree 1", x, 0, 1, 1, 0, 6, 0, 0, 0, 0, 0, 1);
        x.multiply(2, 0, 0);
        CHECK.due("factor of its square", x.factor(2), 1);
        CHECK.part("all of degree 1, twice", x, 0, 2, 1, 0, 6, 0, 0, 0, 0, 0, 1);
        x.multiply(2, 2, 1);
        CHECK.due("factor of its square times x", x.factor(2), 2);
        CHECK.part("all but x, twice", x, 0, 2, 1, 6, 0, 0, 0, 0, 0, 1);
        CHECK.part("x, three times", x, 1, 3, 1, 0, 1);
    }

    /** Terms: "they come by rising e, of equal e by rising d" */
    private static void factorInOrder() {
        // x^3 (x^2 + x + 1)^3 (x + 1) (x^3 + x + 1) of degree 13, modulo 2
        PrimePolynomials x = Check.with(2, Check.row(1), Check.row(0, 1), Check.row(1, 1, 1), Check.row(1, 1), Check.row(1, 1, 0, 1));
        multiplied(x, 0, 1, 1, 1, 2, 2, 2, 3, 4);
        CHECK.due("factor", x.factor(0), 4);
        CHECK.part("e = 1, d = 1", x, 0, 1, 1, 1, 1);
        CHECK.part("e = 1, d = 3", x, 1, 1, 3, 1, 1, 0, 1);
        CHECK.part("e = 3, d = 1", x, 2, 3, 1, 0, 1);
        CHECK.part("e = 3, d = 2", x, 3, 3, 2, 1, 1, 1);
        CHECK.due("part(4, 0)", x.part(4, 0), NONE);
        // (x + 1)^4 x^3 (x^2 + x + 1)^2 (x^3 + x + 1) of degree 14: e falls as d rises
        x = Check.with(2, Check.row(1), Check.row(0, 1), Check.row(1, 1, 1), Check.row(1, 1), Check.row(1, 1, 0, 1));
        multiplied(x, 0, 3, 3, 3, 3, 1, 1, 1, 2, 2, 4);
        CHECK.due("factor", x.factor(0), 4);
        CHECK.part("e = 1", x, 0, 1, 3, 1, 1, 0, 1);
        CHECK.part("e = 2", x, 1, 2, 2, 1, 1, 1);
        CHECK.part("e = 3", x, 2, 3, 1, 0, 1);
        CHECK.part("e = 4", x, 3, 4, 1, 1, 1);
    }

    /** Promise 14: "in place of all that there were" */
    private static void factorInPlaceOfAll() {
        PrimePolynomials x = Scene.full();
        CHECK.due("factor(0)", x.factor(Scene.OTHER_PRIME), 1);
        CHECK.part("the new one", x, 0, 1, 2, 2, 0, 1);
        CHECK.due("part(1, 0)", x.part(1, 0), NONE);
        CHECK.due("split(1, 1)", x.split(1, 1), NONE);
        CHECK.due("product(7)", x.product(7), 3);
        CHECK.register("product of the new one", x, 7, 2, 0, 1);
        CHECK.due("factor(3)", x.factor(Scene.NOT_PRIME), 1);
        CHECK.due("split(0, 1)", x.split(0, Scene.ELEMENT), 0);
        x.set(Scene.ELEMENT, 0, 0);
        CHECK.due("split(0, 1) by 3x", x.split(0, Scene.ELEMENT), 1);
        CHECK.due("part(1, 0)", x.part(1, 0), 1);
        CHECK.due("factor(3) again: what was split is whole", x.factor(Scene.NOT_PRIME), 1);
        CHECK.part("x^2 - 1", x, 0, 1, 1, 6, 0, 1);
        CHECK.due("part(1, 0)", x.part(1, 0), NONE);
    }

    /** Promise 14: parts alone are made; and they are of what the register had, not of what it becomes. */
    private static void factorChangesNoMore() {
        PrimePolynomials x = Scene.full();
        x.factor(Scene.NOT_PRIME);
        SCENE.registers("after factor(3)", x);
        SCENE.field("after factor(3)", x);
        x.set(Scene.NOT_PRIME, 0, 3);
        CHECK.part("the register being changed", x, 0, 1, 1, 6, 0, 1);
    }

    /** Promise 14: "NONE: no such register, or it is 0 (parts stay)." */
    private static void factorRefused() {
        for (int r : Scene.NO_REGISTER) {
            SCENE.none("factor(" + r + ")", x -> x.factor(r));
            SCENE.noneWithout("factor(" + r + ")", x -> x.factor(r));
        }
        SCENE.none("factor(7), 0", x -> x.factor(Scene.ZERO));
        SCENE.noneWithout("factor(7), 0", x -> x.factor(Scene.ZERO));
        // parts that were split stay so
        PrimePolynomials x = Check.with(7, Check.row(6, 0, 1), Check.row(0, 1));
        x.factor(0);
        CHECK.due("split(0, 1)", x.split(0, 1), 1);
        CHECK.due("factor(7), 0", x.factor(7), NONE);
        CHECK.part("stays", x, 0, 1, 1, 6, 1);
        CHECK.part("stays", x, 1, 1, 1, 1, 1);
    }

    /** Promise 15: "e (what = 0), d (1), its polynomial's degree (2)", all different here */
    private static void partWhats() {
        // ((x^2 + 1)(x^2 + 2))^3 modulo 7
        PrimePolynomials x = Check.with(7, Check.row(1), Check.row(1, 0, 1), Check.row(2, 0, 1));
        multiplied(x, 0, 1, 1, 1, 2, 2, 2);
        CHECK.due("factor", x.factor(0), 1);
        CHECK.due("part(0, 0)", x.part(0, 0), 3);
        CHECK.due("part(0, 1)", x.part(0, 1), 2);
        CHECK.due("part(0, 2)", x.part(0, 2), 4);
        CHECK.part("all", x, 0, 3, 2, 2, 0, 3, 0, 1);
    }

    /** Promise 15: "or 100 and more: coefficient what - 100 of that", up to 115, 0 above the degree */
    private static void partCoefficients() {
        PrimePolynomials x = Check.with(2, DEGREE_15);
        x.factor(0);
        CHECK.due("part(0, 100)", x.part(0, 100), 1);
        CHECK.due("part(0, 101)", x.part(0, 101), 1);
        CHECK.due("part(0, 114)", x.part(0, 114), 0);
        CHECK.due("part(0, 115)", x.part(0, 115), 1);
        CHECK.due("part(0, 116)", x.part(0, 116), NONE);
        // a part of lower degree in the same place: nothing is left of the one before
        x = Check.with(2, DEGREE_15, Check.row(1, 1));
        x.factor(0);
        x.factor(1);
        CHECK.part("x + 1", x, 0, 1, 1, 1, 1);
    }

    /** Promise 15: "NONE: no such part, or another what (up to 115)." */
    private static void partRefused() {
        for (int k : new int[] {-1, 2, 3, 14, 15, 16, 100, MIN, MAX}) {
            for (int what : new int[] {0, 1, 2, 100, 115}) {
                SCENE.none("part(" + k + ", " + what + ")", x -> x.part(k, what));
            }
        }
        for (int what : new int[] {-1, 3, 4, 15, 50, 98, 99, 116, 117, 200, -100, MIN, MIN + 100, MAX}) {
            SCENE.none("part(0, " + what + ")", x -> x.part(0, what));
            SCENE.none("part(1, " + what + ")", x -> x.part(1, what));
        }
        for (int what : new int[] {0, 1, 2, 3, 100}) {
            SCENE.noneWithout("part(0, " + what + ")", x -> x.part(0, what));
        }
    }

    /** Terms: "If h's degree is 1 or more": it is 0 where u and g have nothing in common. */
    private static void splitNothingCommon() {
        // 0, and by (x - 1)(x - 2)(x - 3) the numbers 3 and 5, which are no squares: u is a number
        PrimePolynomials x = Scene.full();
        CHECK.due("split by 0", x.split(0, Scene.ZERO), 0);
        CHECK.due("split by 5", x.split(0, Scene.NUMBER), 0);
        x.set(Scene.NUMBER, 0, 3);
        CHECK.due("split by 3", x.split(0, Scene.NUMBER), 0);
        x.set(Scene.NUMBER, 0, 5);
        SCENE.unchanged("after split with h = 1", x);
        // modulo 2: 1 for d = 1
        x = Check.with(2, Check.row(0, 1, 1), Check.row(1));
        x.factor(0);
        CHECK.due("split by 1 modulo 2, d = 1", x.split(0, 1), 0);
        CHECK.part("stays", x, 0, 1, 1, 0, 1, 1);
    }

    /** Terms: "and less than that of g": it is the same where g divides u. */
    private static void splitAllCommon() {
        // 1, 2 and 4 are the squares, 0 not being one of them here: u is 0
        PrimePolynomials x = Scene.full();
        for (int square : new int[] {1, 2, 4}) {
            x.set(Scene.NUMBER, 0, square);
            CHECK.due("split by " + square, x.split(0, Scene.NUMBER), 0);
        }
        x.set(Scene.NUMBER, 0, 5);
        SCENE.unchanged("after split with h = g", x);
        // modulo 2: 0 for any d, 1 for even d, where 1 + 1 is 0
        x = Check.with(2, Check.row(0, 1, 1));
        x.factor(0);
        CHECK.due("split by 0 modulo 2, d = 1", x.split(0, 7), 0);
        CHECK.part("stays", x, 0, 1, 1, 0, 1, 1);
        // (x^4 + x + 1)(x^4 + x^3 + 1)
        x = Check.with(2, Check.row(1, 1, 0, 0, 1), Check.row(1, 0, 0, 1, 1), Check.row(1));
        x.multiply(0, 0, 1);
        CHECK.due("factor", x.factor(0), 1);
        CHECK.due("split by 0 modulo 2, d = 4", x.split(0, 7), 0);
        CHECK.due("split by 1 modulo 2, d = 4", x.split(0, 2), 0);
        CHECK.part("stays", x, 0, 1, 4, 1, 1, 0, 1, 1, 1, 0, 1, 1);
    }

    /** Terms: "the part's polynomial becomes h, and behind it comes a new part", h being of the least degree and of the most */
    private static void splitLeastAndMost() {
        // modulo 7 by x - 3, x - 5, x - 6, x - 1: all but 1 are no squares
        PrimePolynomials x = Check.with(7, Check.row(1), Check.row(-3, 1), Check.row(-5, 1), Check.row(-6, 1), Check.row(-1, 1), Check.row(0, 1));
        multiplied(x, 0, 1, 2, 3, 4);
        CHECK.due("factor", x.factor(0), 1);
        CHECK.due("split by x", x.split(0, 5), 1);
        CHECK.part("h of degree 1", x, 0, 1, 1, 6, 1);
        // (x - 3)(x - 5)(x - 6) = x^3 + 1
        CHECK.part("the quotient", x, 1, 1, 1, 1, 0, 0, 1);
        // by x - 1, x - 2, x - 4, x: all but 0 are squares
        x = Check.with(7, Check.row(0, 1), Check.row(-1, 1), Check.row(-2, 1), Check.row(-4, 1), Check.row(0, 1));
        multiplied(x, 0, 1, 2, 3);
        CHECK.due("factor", x.factor(0), 1);
        CHECK.due("split by x", x.split(0, 4), 1);
        // (x - 1)(x - 2)(x - 4) = x^3 - 1
        CHECK.part("h of degree 3", x, 0, 1, 1, 6, 0, 0, 1);
        CHECK.part("the quotient", x, 1, 1, 1, 0, 1);
    }

    /** Terms: "u is the rest by g of", a being of any degree up to 15 */
    private static void splitByRest() {
        // by all x - a but x: x^15 is x^3, which is 1 for 1, 2 and 4, and -1, no square, for the others
        PrimePolynomials x = Check.with(7, Check.row(-1, 0, 0, 0, 0, 0, 1));
        x.set(1, 15, 1);
        CHECK.due("factor of x^6 - 1", x.factor(0), 1);
        CHECK.due("split by x^15", x.split(0, 1), 1);
        CHECK.part("x^3 - 1", x, 0, 1, 1, 6, 0, 0, 1);
        CHECK.part("x^3 + 1", x, 1, 1, 1, 1, 0, 0, 1);
        // a multiple of g counts as 0
        x = Check.with(7, Check.row(-1, 0, 1), Check.row(-3, 0, 3));
        x.factor(0);
        CHECK.due("split by 3g", x.split(0, 1), 0);
        CHECK.part("stays", x, 0, 1, 1, 6, 0, 1);
    }

    /** Terms: "for P = 2 of a + a^2 + a^4 + .. + a^(2^(d - 1))", from d = 1 on */
    private static void splitTwo() {
        PrimePolynomials x = Check.with(2, Check.row(0, 1, 1), Check.row(0, 1));
        x.factor(0);
        CHECK.due("split by x, d = 1: u is x", x.split(0, 1), 1);
        CHECK.part("x", x, 0, 1, 1, 0, 1);
        CHECK.part("x + 1", x, 1, 1, 1, 1, 1);
        // (x^4 + x + 1)(x^4 + x^3 + 1)(x^4 + x^3 + x^2 + x + 1): the sum for x is 0, 1 and 1, for x^7 0, 0 and 1
        x = Check.with(2, Check.row(1, 1, 0, 0, 1), Check.row(1, 0, 0, 1, 1), Check.row(1, 1, 1, 1, 1), Check.row(0, 1));
        multiplied(x, 0, 1, 2);
        x.set(4, 7, 1);
        CHECK.due("factor", x.factor(0), 1);
        CHECK.due("split by x", x.split(0, 3), 1);
        CHECK.part("where the sum is 0", x, 0, 1, 4, 1, 1, 0, 0, 1);
        CHECK.due("part(1, 2)", x.part(1, 2), 8);
        CHECK.due("split by x, again", x.split(1, 3), 0);
        CHECK.due("split by x^7", x.split(1, 4), 1);
        CHECK.part("where the sum is 0", x, 1, 1, 4, 1, 0, 0, 1, 1);
        CHECK.part("where it is 1", x, 2, 1, 4, 1, 1, 1, 1, 1);
    }

    /** Terms: "a^((P^d - 1) / 2) - 1" for P = 3, the least, where the exponent is 1 for d = 1 and 4 for d = 2 */
    private static void splitThree() {
        PrimePolynomials x = Check.with(3, Check.row(0, 2, 0, 1), Check.row(0, 1), Check.row(0, 0, 1));
        x.factor(0);
        CHECK.due("split by x: u is x - 1", x.split(0, 1), 1);
        CHECK.part("x - 1", x, 0, 1, 1, 2, 1);
        CHECK.part("x^2 + x", x, 1, 1, 1, 0, 1, 1);
        CHECK.due("split by x^2: u is x^2 - 1", x.split(1, 2), 1);
        CHECK.part("x + 1", x, 1, 1, 1, 1, 1);
        CHECK.part("x", x, 2, 1, 1, 0, 1);
        // (x^2 + 1)(x^2 + x + 2): x^4 is 1 by the first, -1 by the other
        x = Check.with(3, Check.row(1, 0, 1), Check.row(2, 1, 1), Check.row(0, 1));
        x.multiply(0, 0, 1);
        CHECK.due("factor", x.factor(0), 1);
        CHECK.due("split by x, d = 2", x.split(0, 2), 1);
        CHECK.part("where x^4 is 1", x, 0, 1, 2, 1, 0, 1);
        CHECK.part("where it is -1", x, 1, 1, 2, 2, 1, 1);
    }

    /** Promise 16: "1 when there are two then": from one part of degree 15 up to 15 parts, which are all that there can be */
    private static void splitToTheEnd() {
        PrimePolynomials x = Check.with(17, Check.row(1), Check.row(0, 1));
        List<List<Integer>> due = new ArrayList<>();
        due.add(new ArrayList<>());
        for (int root = 1; root <= 15; root++) {
            x.set(1, 0, -root);
            x.multiply(0, 0, 1);
            due.get(0).add(root);
        }
        CHECK.due("factor", x.factor(0), 1);
        CHECK.due("part(0, 2)", x.part(0, 2), 15);
        for (int shift = 0; shift < 17; shift++) {
            x.set(1, 0, shift);
            for (int k = due.size() - 1; k >= 0; k--) {
                splitRoots(x, due, k, shift);
            }
        }
        CHECK.due("parts", due.size(), 15);
        for (int k = 0; k < due.size(); k++) {
            CHECK.due("part(" + k + ", 2)", x.part(k, 2), 1);
            CHECK.due("part(" + k + ", 100)", x.part(k, 100), 17 - due.get(k).get(0));
        }
        CHECK.due("part(15, 0)", x.part(15, 0), NONE);
        CHECK.due("split(15, 1)", x.split(15, 1), NONE);
        CHECK.due("product(2)", x.product(2), 16);
        CHECK.due("add(2, 2, 0, -1)", x.add(2, 2, 0, -1), 0);
    }

    /** Splits part k by x + shift, in the object and in the list of roots. */
    private static void splitRoots(PrimePolynomials x, List<List<Integer>> due, int k, int shift) {
        List<Integer> squares = new ArrayList<>();
        List<Integer> others = new ArrayList<>();
        for (int root : due.get(k)) {
            (isSquare((root + shift) % 17) ? squares : others).add(root);
        }
        String call = "split(" + k + ", 1) by x + " + shift;
        if (due.get(k).size() == 1) {
            CHECK.due(call, x.split(k, 1), NONE);
        } else if (squares.isEmpty() || others.isEmpty()) {
            CHECK.due(call, x.split(k, 1), 0);
        } else {
            CHECK.due(call, x.split(k, 1), 1);
            due.set(k, squares);
            due.add(k + 1, others);
        }
    }

    private static boolean isSquare(int number) {
        for (int root = 1; root < 17; root++) {
            if (root * root % 17 == number) {
                return true;
            }
        }
        return false;
    }

    /** Promise 16, where other calls came since the parts were made: a split is by the part's own polynomial. */
    private static void splitBetweenOtherCalls() {
        // (x^2 + 1)(x^2 + x + 2) modulo 3, once more; register 3 makes a field, register 4 is not prime
        int[][] rows = {{1, 0, 1}, {2, 1, 1}, {0, 1}, {1, 2, 0, 1}, {2, 0, 0, 0, 0, 1}};
        for (int between = 0; between < 3; between++) {
            PrimePolynomials x = Check.with(3, rows);
            x.multiply(0, 0, 1);
            CHECK.due("factor", x.factor(0), 1);
            if (between == 0) {
                CHECK.due("isPrime(4)", x.isPrime(4), 0);
            } else {
                CHECK.due("field(3)", x.field(3), 3);
            }
            if (between == 2) {
                CHECK.due("trace(2, true)", x.trace(2, true), 2);
            }
            CHECK.due("split(0, 2)", x.split(0, 2), 1);
            CHECK.part("where x^4 is 1", x, 0, 1, 2, 1, 0, 1);
            CHECK.part("where it is -1", x, 1, 1, 2, 2, 1, 1);
        }
    }

    /** Terms: "a new part, with the same e and d"; registers, the field and the other parts stay. */
    private static void splitChangesNoMore() {
        PrimePolynomials x = Scene.full();
        x.set(Scene.ELEMENT, 0, 0);
        // 3 * 1 is no square, 3 * 2 neither, 3 * 3 is one
        CHECK.due("split(0, 1) by 3x", x.split(0, Scene.ELEMENT), 1);
        x.set(Scene.ELEMENT, 0, 2);
        SCENE.registers("after split", x);
        CHECK.part("h", x, 0, 1, 1, 4, 1);
        CHECK.part("behind it", x, 1, 1, 1, 2, 4, 1);
        CHECK.part("the other one, moved", x, 2, 2, 2, 1, 0, 1);
        CHECK.due("part(3, 0)", x.part(3, 0), NONE);
        SCENE.field("after split", x);
        // (x^2 - 1)^3 (x^2 + 1)
        x = Check.with(7, Check.row(1, 0, 1), Check.row(-1, 0, 1), Check.row(0, 1));
        multiplied(x, 0, 1, 1, 1);
        CHECK.due("factor", x.factor(0), 2);
        CHECK.due("split(1, 2)", x.split(1, 2), 1);
        CHECK.part("the one before stays", x, 0, 1, 2, 1, 0, 1);
        CHECK.part("e = 3", x, 1, 3, 1, 6, 1);
        CHECK.part("e = 3", x, 2, 3, 1, 1, 1);
    }

    /** Promise 16: "NONE: no such part or register, or it is complete." */
    private static void splitRefused() {
        for (int k : new int[] {-1, 2, 14, 15, MIN, MAX}) {
            SCENE.none("split(" + k + ", 1)", x -> x.split(k, Scene.ELEMENT));
        }
        for (int r : Scene.NO_REGISTER) {
            SCENE.none("split(0, " + r + ")", x -> x.split(Scene.NOT_COMPLETE, r));
            SCENE.none("split(1, " + r + "), complete too", x -> x.split(Scene.COMPLETE, r));
            SCENE.none("split(" + r + ", " + r + ")", x -> x.split(r, r));
        }
        for (int r = 0; r < 8; r++) {
            int by = r;
            SCENE.none("split(1, " + r + "), complete", x -> x.split(Scene.COMPLETE, by));
        }
        SCENE.noneWithout("split(0, 1)", x -> x.split(0, Scene.ELEMENT));
    }

    /** Promise 17, of a number: there are no parts, and the coefficient at the degree is itself. */
    private static void productOfNumber() {
        PrimePolynomials x = Scene.full();
        x.factor(Scene.NUMBER);
        CHECK.due("product(6)", x.product(6), 1);
        CHECK.register("5", x, 6, 5);
        x = Check.with(2, Check.row(1));
        x.factor(0);
        CHECK.due("product(7)", x.product(7), 1);
        CHECK.register("1 modulo 2", x, 7, 1);
    }

    /** Promise 17: "the product of all parts, each taken e times, times the coefficient at the degree", before and after a split */
    private static void productAgain() {
        PrimePolynomials x = Scene.full();
        CHECK.due("product(6)", x.product(6), 8);
        CHECK.register("product", x, 6, 3, 5, 2, 6, 2, 4, 3, 3);
        x.set(Scene.ELEMENT, 0, 0);
        CHECK.due("split(0, 1)", x.split(0, Scene.ELEMENT), 1);
        CHECK.due("product(5)", x.product(5), 8);
        CHECK.register("product after a split", x, 5, 3, 5, 2, 6, 2, 4, 3, 3);
        CHECK.register("others stay", x, Scene.NOT_PRIME, 6, 0, 1);
        CHECK.part("parts stay", x, 0, 1, 1, 4, 1);
        CHECK.part("parts stay", x, 2, 2, 2, 1, 0, 1);
    }

    /** Promise 17 at the greatest degree. */
    private static void productOfDegree15() {
        for (int p : new int[] {2, 3, 7, MAX}) {
            PrimePolynomials x = Check.with(p, Check.row(0, -1), Check.row(1, 1));
            for (int i = 0; i < 14; i++) {
                x.multiply(0, 0, 1);
            }
            CHECK.due("factor modulo " + p, x.factor(0), 2);
            CHECK.due("product(7) modulo " + p, x.product(7), 16);
            CHECK.due("coefficient(7, 15) modulo " + p, x.coefficient(7, 15), p - 1);
            CHECK.due("add(7, 7, 0, -1) modulo " + p, x.add(7, 7, 0, -1), 0);
        }
    }

    /** Promise 17: "of what was factored last", the register being another thing by then, and a refused factor not counting */
    private static void productOfLast() {
        PrimePolynomials x = Check.with(7, Check.row(1, 2, 3), Check.row(4, 5));
        x.factor(0);
        x.factor(1);
        x.set(1, 1, 6);
        CHECK.due("product(2)", x.product(2), 2);
        CHECK.register("the last", x, 2, 4, 5);
        x.factor(7);
        x.factor(8);
        CHECK.due("product(2)", x.product(2), 2);
        CHECK.register("still the last", x, 2, 4, 5);
        CHECK.due("product(1), into what was factored", x.product(1), 2);
        CHECK.register("the last", x, 1, 4, 5);
    }

    /** Promise 17: "NONE: no such register, or nothing was factored." */
    private static void productRefused() {
        for (int r : Scene.NO_REGISTER) {
            SCENE.none("product(" + r + ")", x -> x.product(r));
            SCENE.noneWithout("product(" + r + ")", x -> x.product(r));
        }
        for (int r = 0; r < 8; r++) {
            int d = r;
            SCENE.noneWithout("product(" + r + ")", x -> x.product(d));
        }
    }
}
