/** The boundaries that the document's first words and its terms name, as far as no one promise is about them. */
public final class TermsBoundaryTest {
    private static final int NONE = PrimePolynomials.NONE;
    private static final int FULL = PrimePolynomials.FULL;
    private static final int MAX = Integer.MAX_VALUE;
    private static final Check CHECK = new Check();
    private static final Scene SCENE = new Scene(CHECK);

    public static void main(String[] args) {
        upTo512Calls();
        numbersWrapAround();
        eightRegisters();
        sixteenCoefficients();
        degrees();
        completeAtItsDegree();
        refusedOneAfterAnother();
        noneBeforeFull();
        refusedAtTheStart();
        CHECK.end();
    }

    /** "An object is used for at most 512 calls": the 512th is answered as the first. */
    private static void upTo512Calls() {
        PrimePolynomials x = new PrimePolynomials(7);
        // (x - 1)(x - 2)(x - 3), x, x^2 + 1: 7 calls
        int[][] rows = {{1, 4, 1, 1}, {0, 1}, {1, 0, 1}};
        for (int r = 0; r < rows.length; r++) {
            for (int i = 0; i < rows[r].length; i++) {
                if (rows[r][i] != 0) {
                    x.set(r, i, rows[r][i]);
                }
            }
        }
        // 42 times 12 calls
        for (int round = 1; round <= 42; round++) {
            String when = "round " + round + ": ";
            CHECK.due(when + "factor(0)", x.factor(0), 1);
            CHECK.due(when + "split(0, 1)", x.split(0, 1), 1);
            CHECK.due(when + "part(1, 100)", x.part(1, 100), 4);
            CHECK.due(when + "product(3)", x.product(3), 4);
            CHECK.due(when + "multiply(4, 3, 2)", x.multiply(4, 3, 2), 6);
            CHECK.due(when + "divide(5, 6, 4, 3)", x.divide(5, 6, 4, 3), 0);
            CHECK.due(when + "field(5)", x.field(5), 2);
            // register 3 is 3x there: -3 = 4, 1 / 4 = 2, 2 + 2
            CHECK.due(when + "times(6, 1, 3)", x.times(6, 1, 3), 1);
            CHECK.due(when + "inverse(6, 6)", x.inverse(6, 6), 1);
            CHECK.due(when + "trace(6, false)", x.trace(6, false), 4);
            CHECK.due(when + "power(7, 1, 9, 5)", x.power(7, 1, 9, 5), 2);
            CHECK.due(when + "value(4, -1)", x.value(4, -1), 1);
        }
        CHECK.due("the 512th call", x.isPrime(2), 1);
    }

    /** "All numbers are modulo P, a prime, 0 .. P - 1." */
    private static void numbersWrapAround() {
        for (int p : new int[] {2, 3, 7, 46337, 65537, MAX}) {
            PrimePolynomials x = Check.with(p, Check.row(-1, 1), Check.row(1), Check.row(-1), Check.row(0, 0, -1));
            String modulo = " modulo " + p;
            CHECK.due("set to P - 1" + modulo, x.coefficient(2, 0), p - 1);
            CHECK.due("P - 1 + 1" + modulo, x.add(4, 2, 1, 1), 0);
            CHECK.due("0 - 1" + modulo, x.add(4, 5, 1, -1), 1);
            CHECK.due("0 - 1" + modulo, x.coefficient(4, 0), p - 1);
            CHECK.due("(P - 1) * (P - 1)" + modulo, x.multiply(4, 2, 2), 1);
            CHECK.due("(P - 1) * (P - 1)" + modulo, x.coefficient(4, 0), 1);
            CHECK.due("1 / (P - 1)" + modulo, x.divide(4, 5, 1, 2), 0);
            CHECK.due("1 / (P - 1)" + modulo, x.coefficient(4, 0), p - 1);
            CHECK.due("rest of -x^2 by x - 1" + modulo, x.divide(4, 5, 3, 0), 1);
            CHECK.due("rest of -x^2 by x - 1" + modulo, x.coefficient(5, 0), p - 1);
            CHECK.due("x - 1 at 0" + modulo, x.value(0, 0), p - 1);
            CHECK.due("x - 1 at P" + modulo, x.value(0, p), p - 1);
            CHECK.due("(P - 1)^P by x - 1" + modulo, x.power(4, 2, p, 0), 1);
            CHECK.due("(P - 1)^P by x - 1" + modulo, x.coefficient(4, 0), p - 1);
        }
    }

    /** "There are 8 REGISTERS, 0 .. 7": the first and the last can be named in each place. */
    private static void eightRegisters() {
        for (int r = 0; r < 8; r++) {
            PrimePolynomials x = new PrimePolynomials(7);
            String name = "register " + r + ": ";
            CHECK.due(name + "set", x.set(r, 1, 1), 1);
            CHECK.due(name + "coefficient", x.coefficient(r, 1), 1);
            CHECK.due(name + "size", x.size(r), 2);
            CHECK.due(name + "value", x.value(r, 3), 3);
            CHECK.due(name + "isPrime", x.isPrime(r), 1);
            CHECK.due(name + "factor", x.factor(r), 1);
            CHECK.due(name + "field", x.field(r), 1);
            CHECK.due(name + "trace", x.trace(r, false), 0);
            CHECK.due(name + "add", x.add(r, r, r, 1), 2);
            CHECK.due(name + "multiply", x.multiply(r, r, r), 3);
            CHECK.due(name + "derive", x.derive(r, r), 2);
            CHECK.due(name + "common", x.common(r, r, r), 2);
            CHECK.due(name + "product", x.product(r), 2);
            CHECK.due(name + "power", x.power(r, r, 0, r), 1);
            CHECK.due(name + "times", x.times(r, r, r), 1);
            CHECK.due(name + "inverse", x.inverse(r, r), 1);
            CHECK.due(name + "divide", x.divide(r, r, r, r), 0);
            for (int other = 0; other < 8; other++) {
                CHECK.due(name + "size(" + other + ")", x.size(other), 0);
            }
        }
    }

    /** "it has COEFFICIENTS c0, c1, .. c15, and stands for c0 + c1 * x + c2 * x^2 and so on" */
    private static void sixteenCoefficients() {
        PrimePolynomials x = new PrimePolynomials(65537);
        for (int i = 0; i < 16; i++) {
            x.set(0, i, 1);
            CHECK.due("1 + .. + x^" + i + " at 2", x.value(0, 2), (1 << i + 1) - 1);
        }
    }

    /** "Its DEGREE is the greatest i with a ci that is not 0; -1 for 0." */
    private static void degrees() {
        PrimePolynomials x = Check.with(7, Check.row(0, 0, 0, 0, 0, 0, 0, 0, 0, 0, 0, 0, 0, 0, 0, 1), Check.row(0, 1));
        CHECK.due("size of x^15", x.size(0), 16);
        for (int degree = 14; degree >= 0; degree--) {
            x.divide(0, 2, 0, 1);
            CHECK.due("size of x^" + degree, x.size(0), degree + 1);
        }
        x.divide(0, 2, 0, 1);
        CHECK.due("size of 0", x.size(0), 0);
        CHECK.due("set(0, 3, 0) in 0", x.set(0, 3, 0), 0);
    }

    /** "It is COMPLETE when its degree is d." */
    private static void completeAtItsDegree() {
        // x^4 - 1 = (x - 1)(x + 1)(x^2 + 1) modulo 7
        PrimePolynomials x = Check.with(7, Check.row(-1, 0, 0, 0, 1), Check.row(0, 1));
        CHECK.due("factor", x.factor(0), 2);
        CHECK.due("split(1, 1): degree 2, d = 2", x.split(1, 1), NONE);
        CHECK.due("split(0, 1): degree 2, d = 1", x.split(0, 1), 1);
        CHECK.due("split(0, 1): degree 1, d = 1", x.split(0, 1), NONE);
        CHECK.due("split(1, 1): degree 1, d = 1", x.split(1, 1), NONE);
        CHECK.due("split(2, 1): degree 2, d = 2", x.split(2, 1), NONE);
        CHECK.due("split(3, 1): none such", x.split(3, 1), NONE);
        // x^2 has e = 2, d = 1, and its polynomial is x: it is complete
        x = Check.with(7, Check.row(0, 0, 1), Check.row(1, 1));
        CHECK.due("factor of x^2", x.factor(0), 1);
        CHECK.due("split(0, 1)", x.split(0, 1), NONE);
        CHECK.part("stays", x, 0, 2, 1, 0, 1);
    }

    /** "then nothing is changed": many refused calls in a row leave all as it was. */
    private static void refusedOneAfterAnother() {
        PrimePolynomials x = Scene.full();
        for (int wrong : Scene.NO_REGISTER) {
            int[] answers = {
                x.set(wrong, 0, 1), x.set(0, wrong < 0 ? wrong : 16, 1), x.add(wrong, 0, 1, 1), x.multiply(0, wrong, 1),
                x.divide(0, 1, 2, wrong), x.divide(0, 1, 2, Scene.ZERO), x.common(wrong, 0, 1), x.power(0, 1, -1, 2),
                x.power(0, 1, 2, Scene.ZERO), x.derive(wrong, 0), x.isPrime(wrong), x.factor(wrong), x.factor(Scene.ZERO),
                x.part(wrong, 0), x.split(0, wrong), x.split(Scene.COMPLETE, 1), x.product(wrong), x.field(wrong),
                x.field(Scene.NOT_PRIME), x.field(Scene.NOT_MONIC), x.times(wrong, 0, 1), x.inverse(wrong, 1),
                x.inverse(0, Scene.NOT_MONIC), x.trace(wrong, true)};
            for (int i = 0; i < answers.length; i++) {
                CHECK.due("refused call " + i + " with " + wrong, answers[i], NONE);
            }
            CHECK.due("multiply(0, 6, 6)", x.multiply(0, Scene.DEGREE_15, Scene.DEGREE_15), FULL);
        }
        SCENE.unchanged("after refused calls", x);
    }

    /** "NONE where something is not as said", "FULL where a degree would be above 15": a register that there isn't has no degree. */
    private static void noneBeforeFull() {
        SCENE.none("multiply(8, 6, 6)", x -> x.multiply(8, Scene.DEGREE_15, Scene.DEGREE_15));
        SCENE.none("multiply(0, 8, 6)", x -> x.multiply(0, 8, Scene.DEGREE_15));
        SCENE.none("multiply(0, 6, 8)", x -> x.multiply(0, Scene.DEGREE_15, 8));
    }

    /** "(no such register included)": on a new object too, before anything was set. */
    private static void refusedAtTheStart() {
        PrimePolynomials x = new PrimePolynomials(2);
        int[] answers = {
            x.divide(0, 1, 2, 3), x.power(0, 1, 0, 2), x.power(0, 1, -1, 2), x.factor(0), x.part(0, 0), x.split(0, 0),
            x.product(0), x.field(0), x.times(0, 1, 2), x.inverse(0, 1), x.trace(0, false), x.trace(0, true)};
        for (int i = 0; i < answers.length; i++) {
            CHECK.due("new object, refused call " + i, answers[i], NONE);
        }
        for (int r = 0; r < 8; r++) {
            CHECK.register("new object, after refused calls", x, r);
        }
        SCENE.nothingMade("new object, after refused calls", x);
        x = new PrimePolynomials(2);
        CHECK.due("add of 0 and 0", x.add(0, 1, 2, 1), 0);
        CHECK.due("multiply of 0 and 0", x.multiply(0, 1, 2), 0);
        CHECK.due("common of 0 and 0", x.common(0, 1, 2), 0);
        CHECK.due("derive of 0", x.derive(0, 1), 0);
        CHECK.due("isPrime of 0", x.isPrime(0), 0);
        CHECK.due("value of 0", x.value(0, 1), 0);
    }
}
