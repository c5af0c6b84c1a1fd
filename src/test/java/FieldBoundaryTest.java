/** The boundaries that promises 18 to 21 name; above each test stands the sentence that it is for. */
public final class FieldBoundaryTest {
    private static final int NONE = PrimePolynomials.NONE;
    private static final int MAX = Integer.MAX_VALUE;
    private static final Check CHECK = new Check();
    private static final Scene SCENE = new Scene(CHECK);

    public static void main(String[] args) {
        fieldFromDegreeOne();
        fieldUpToDegree15();
        fieldInPlaceOfAnother();
        fieldChangesNoMore();
        fieldRefused();
        timesWithRests();
        timesOfDegree15();
        timesToZero();
        timesInPlace();
        timesChangesNoMore();
        timesRefused();
        inverseOfNumbers();
        inverseByDegreeOne();
        inverseByRest();
        inverseOfDegree14();
        inverseInPlace();
        inverseRefused();
        traceOfZero();
        traceOfNumbers();
        traceByDegreeOne();
        traceByRest();
        traceOfDegree15();
        traceBetweenOtherCalls();
        traceChangesNothing();
        traceRefused();
        CHECK.end();
    }

    /** Modulo 2 with the field of x^15 + x + 1, register 1 being x and register 2 x^14. */
    private static PrimePolynomials twoAnd15() {
        PrimePolynomials x = Check.with(2, Check.row(1, 1), Check.row(0, 1));
        x.set(0, 15, 1);
        x.set(2, 14, 1);
        CHECK.due("field of x^15 + x + 1 modulo 2", x.field(0), 15);
        return x;
    }

    /** Modulo 31 with the field of x^15 - 3, register 1 being x and register 2 x^14. */
    private static PrimePolynomials thirtyOneAnd15() {
        PrimePolynomials x = Check.with(31, Check.row(-3), Check.row(0, 1));
        x.set(0, 15, 1);
        x.set(2, 14, 1);
        CHECK.due("field of x^15 - 3 modulo 31", x.field(0), 15);
        return x;
    }

    /** Promise 18: "k", from 1 on: each monic polynomial of degree 1 makes a field. */
    private static void fieldFromDegreeOne() {
        for (int p : new int[] {2, 3, 7, MAX}) {
            PrimePolynomials x = Check.with(p, Check.row(0, 1), Check.row(1, 1), Check.row(-1, 1));
            CHECK.due("field of x modulo " + p, x.field(0), 1);
            CHECK.due("field of x + 1 modulo " + p, x.field(1), 1);
            CHECK.due("field of x - 1 modulo " + p, x.field(2), 1);
        }
    }

    /** Promise 18: "k", up to 15 */
    private static void fieldUpToDegree15() {
        twoAnd15();
        thirtyOneAnd15();
        PrimePolynomials x = Check.with(2, Check.row(1));
        x.set(0, 15, 1);
        CHECK.due("field of x^15 + 1", x.field(0), NONE);
        CHECK.due("no field", x.trace(0, false), NONE);
    }

    /** Promise 18: "in place of another one", of a lower degree and of a higher one */
    private static void fieldInPlaceOfAnother() {
        PrimePolynomials x = Scene.full();
        CHECK.due("field(0), x^2 + 2", x.field(Scene.OTHER_PRIME), 2);
        CHECK.due("times(7, 1, 1)", x.times(7, 1, 1), 2);
        CHECK.register("(3x + 2)^2 where x^2 is -2", x, 7, 0, 5);
        x.set(Scene.NOT_PRIME, 2, 0);
        x.set(Scene.NOT_PRIME, 1, 1);
        CHECK.due("field(3), x - 1", x.field(Scene.NOT_PRIME), 1);
        CHECK.due("times(7, 1, 1)", x.times(7, 1, 1), 1);
        CHECK.register("5^2", x, 7, 4);
        x.set(Scene.NUMBER, 3, 1);
        CHECK.due("field(4), x^3 + 5", x.field(Scene.NUMBER), 3);
        CHECK.due("times(7, 1, 1)", x.times(7, 1, 1), 3);
        CHECK.register("(3x + 2)^2", x, 7, 4, 5, 2);
        CHECK.due("field(4), the same again", x.field(Scene.NUMBER), 3);
    }

    /** Promise 18: registers and parts stay, and the field does when the register is changed. */
    private static void fieldChangesNoMore() {
        PrimePolynomials x = Scene.full();
        x.field(Scene.OTHER_PRIME);
        SCENE.registers("after field(0)", x);
        SCENE.parts("after field(0)", x);
        x.set(Scene.OTHER_PRIME, 1, 1);
        CHECK.due("times(7, 1, 1)", x.times(7, 1, 1), 2);
        CHECK.register("(3x + 2)^2 where x^2 is -2", x, 7, 0, 5);
    }

    /** Promise 18: "NONE: no such register, it is not monic or not prime (the field stays)." */
    private static void fieldRefused() {
        for (int r : Scene.NO_REGISTER) {
            SCENE.none("field(" + r + ")", x -> x.field(r));
            SCENE.noneWithout("field(" + r + ")", x -> x.field(r));
        }
        SCENE.none("field(1), of degree 1, not monic", x -> x.field(Scene.ELEMENT));
        int[] others = {Scene.NOT_MONIC, Scene.NOT_PRIME, Scene.NUMBER, Scene.DEGREE_8, Scene.DEGREE_15, Scene.ZERO};
        for (int r : others) {
            SCENE.none("field(" + r + ")", x -> x.field(r));
            SCENE.noneWithout("field(" + r + ")", x -> x.field(r));
        }
        PrimePolynomials x = Check.with(2, Check.row(1), Check.row(1, 0, 1), Check.row(0, 1, 1), Check.row(1, 1, 1));
        CHECK.due("field of 1, which is monic", x.field(0), NONE);
        CHECK.due("field of a square", x.field(1), NONE);
        CHECK.due("field of x^2 + x", x.field(2), NONE);
        CHECK.due("no field", x.times(7, 0, 0), NONE);
        CHECK.due("field of x^2 + x + 1", x.field(3), 2);
    }

    /** Terms: "it works with the rests by m of what registers have", degrees being below k, k and above k */
    private static void timesWithRests() {
        // x^2 is -1: 3x + 2, x^2 + 2 which is 1, x^3 which is -x
        PrimePolynomials x = Check.with(7, Check.row(1, 0, 1), Check.row(2, 3), Check.row(2, 0, 1), Check.row(0, 0, 0, 1));
        x.field(0);
        CHECK.due("times(7, 1, 2)", x.times(7, 1, 2), 2);
        CHECK.register("times what is 1", x, 7, 2, 3);
        CHECK.due("times(7, 2, 2)", x.times(7, 2, 2), 1);
        CHECK.register("1 times 1", x, 7, 1);
        CHECK.due("times(7, 1, 3)", x.times(7, 1, 3), 2);
        CHECK.register("times -x", x, 7, 3, 5);
        CHECK.due("times(7, 3, 1)", x.times(7, 3, 1), 2);
        CHECK.register("-x times", x, 7, 3, 5);
        // the rests by x - 2 are values at 2
        x = Check.with(5, Check.row(3, 1), Check.row(1, 1, 1), Check.row(0, 4));
        x.field(0);
        CHECK.due("times(7, 1, 2), k = 1", x.times(7, 1, 2), 1);
        CHECK.register("7 * 8", x, 7, 1);
    }

    /** Promise 19: a product of degrees above 15 is no matter in the field. */
    private static void timesOfDegree15() {
        PrimePolynomials x = Scene.full();
        // 3x^15 + 2x^7 + 1 is -3x - 2x + 1, x + 2x^8 is x + 2
        CHECK.due("times(7, 6, 6)", x.times(7, 6, 6), 2);
        CHECK.register("(2x + 1)^2", x, 7, 4, 4);
        CHECK.due("times(7, 6, 5)", x.times(7, 6, 5), 2);
        CHECK.register("(2x + 1)(x + 2)", x, 7, 0, 5);
        x = twoAnd15();
        CHECK.due("times(7, 2, 2)", x.times(7, 2, 2), 15);
        CHECK.register("x^28", x, 7, 0, 0, 0, 0, 0, 0, 0, 0, 0, 0, 0, 0, 0, 1, 1);
        CHECK.due("times(7, 2, 1)", x.times(7, 2, 1), 2);
        CHECK.register("x^15", x, 7, 1, 1);
        x.set(3, 15, 1);
        CHECK.due("times(7, 3, 3)", x.times(7, 3, 3), 3);
        CHECK.register("x^30", x, 7, 1, 0, 1);
        x = thirtyOneAnd15();
        CHECK.due("times(7, 2, 2)", x.times(7, 2, 2), 14);
        CHECK.register("x^28", x, 7, 0, 0, 0, 0, 0, 0, 0, 0, 0, 0, 0, 0, 0, 3);
    }

    /** Promise 19: "its size", 0 where x or y is 0 there */
    private static void timesToZero() {
        PrimePolynomials x = Scene.full();
        CHECK.due("times(6, 1, 7)", x.times(6, Scene.ELEMENT, Scene.ZERO), 0);
        CHECK.register("by 0", x, 6);
        CHECK.due("times(5, 2, 1)", x.times(5, Scene.NOT_MONIC, Scene.ELEMENT), 0);
        CHECK.register("what is 0 there", x, 5);
        CHECK.due("times(4, 7, 7)", x.times(4, Scene.ZERO, Scene.ZERO), 0);
        CHECK.register("0 by 0", x, 4);
    }

    /** Promise 19, register d being one of the others, or all of them. */
    private static void timesInPlace() {
        PrimePolynomials x = Check.with(7, Check.row(1, 0, 1), Check.row(2, 3), Check.row(1, 1));
        x.field(0);
        CHECK.due("times(1, 1, 2)", x.times(1, 1, 2), 2);
        CHECK.register("in place of x", x, 1, 6, 5);
        CHECK.due("times(2, 1, 2)", x.times(2, 1, 2), 2);
        CHECK.register("in place of y", x, 2, 1, 4);
        CHECK.due("times(2, 2, 2)", x.times(2, 2, 2), 2);
        CHECK.register("all in one", x, 2, 6, 1);
        CHECK.due("times(0, 1, 2), in place of what made the field", x.times(0, 1, 2), 2);
        CHECK.register("(5x + 6)(x + 6)", x, 0, 3, 1);
        CHECK.due("times(3, 2, 2)", x.times(3, 2, 2), 2);
        CHECK.register("the field stays", x, 3, 0, 5);
    }

    /** Promise 19: register d alone is changed. */
    private static void timesChangesNoMore() {
        PrimePolynomials x = Scene.full();
        x.times(Scene.ZERO, Scene.NOT_MONIC, Scene.DEGREE_15);
        SCENE.unchanged("after times into 0 which is 0", x);
    }

    /** Promise 19: "NONE: no such register, no field." */
    private static void timesRefused() {
        for (int r : Scene.NO_REGISTER) {
            SCENE.none("times(" + r + ", 1, 2)", x -> x.times(r, 1, 2));
            SCENE.none("times(1, " + r + ", 2)", x -> x.times(1, r, 2));
            SCENE.none("times(1, 2, " + r + ")", x -> x.times(1, 2, r));
            SCENE.noneWithout("times(" + r + ", 1, 2)", x -> x.times(r, 1, 2));
        }
        SCENE.noneWithout("times(1, 2, 3)", x -> x.times(1, 2, 3));
        SCENE.noneWithout("times(6, 6, 6)", x -> x.times(6, 6, 6));
        SCENE.noneWithout("times(1, 7, 7)", x -> x.times(1, 7, 7));
    }

    /** Promise 20: "the element by which x makes 1", for numbers, 1 and P - 1 among them */
    private static void inverseOfNumbers() {
        int[] due = {0, 1, 4, 5, 2, 3, 6};
        for (int number = 1; number < 7; number++) {
            PrimePolynomials x = Check.with(7, Check.row(1, 0, 1), Check.row(number));
            x.field(0);
            CHECK.due("inverse of " + number, x.inverse(7, 1), 1);
            CHECK.register("inverse of " + number, x, 7, due[number]);
        }
        PrimePolynomials x = Check.with(MAX, Check.row(1, 0, 1), Check.row(-1), Check.row(2));
        x.field(0);
        CHECK.due("inverse of -1 modulo the greatest P", x.inverse(7, 1), 1);
        CHECK.register("-1", x, 7, MAX - 1);
        CHECK.due("inverse of 2 modulo the greatest P", x.inverse(7, 2), 1);
        CHECK.register("2^30", x, 7, 1 << 30);
    }

    /** Promise 20 for k = 1, and for P = 2 there, where 1 is the only one that has an inverse. */
    private static void inverseByDegreeOne() {
        PrimePolynomials x = Check.with(2, Check.row(0, 1), Check.row(1, 1, 1), Check.row(0, 1, 1));
        x.field(0);
        CHECK.due("inverse of x^2 + x + 1 where x is 0", x.inverse(7, 1), 1);
        CHECK.register("1", x, 7, 1);
        CHECK.due("inverse of x^2 + x where x is 0", x.inverse(7, 2), NONE);
        CHECK.register("nothing is changed", x, 7, 1);
        x = Check.with(7, Check.row(-3, 1), Check.row(0, 1), Check.row(-3, 1));
        x.field(0);
        CHECK.due("inverse of x where x is 3", x.inverse(7, 1), 1);
        CHECK.register("5", x, 7, 5);
        CHECK.due("inverse of x - 3 where x is 3", x.inverse(7, 2), NONE);
        CHECK.register("nothing is changed", x, 7, 5);
    }

    /** Promise 20: it works with the rest of x, of degree k and above. */
    private static void inverseByRest() {
        // x^2 is -1: x^2 + x is x - 1, whose inverse is 3(x + 1); x^15 is -x
        PrimePolynomials x = Check.with(7, Check.row(1, 0, 1), Check.row(0, 1, 1));
        x.field(0);
        x.set(2, 15, 1);
        CHECK.due("inverse(7, 1)", x.inverse(7, 1), 2);
        CHECK.register("of x - 1", x, 7, 3, 3);
        CHECK.due("inverse(7, 2)", x.inverse(7, 2), 2);
        CHECK.register("of -x", x, 7, 0, 1);
    }

    /** Promise 20 for k = 15. */
    private static void inverseOfDegree14() {
        PrimePolynomials x = twoAnd15();
        CHECK.due("inverse of x", x.inverse(7, 1), 15);
        CHECK.register("x^14 + 1", x, 7, 1, 0, 0, 0, 0, 0, 0, 0, 0, 0, 0, 0, 0, 0, 1);
        CHECK.due("inverse of that", x.inverse(7, 7), 2);
        CHECK.register("x", x, 7, 0, 1);
        x = thirtyOneAnd15();
        CHECK.due("inverse of x", x.inverse(7, 1), 15);
        CHECK.register("x^14 / 3", x, 7, 0, 0, 0, 0, 0, 0, 0, 0, 0, 0, 0, 0, 0, 0, 21);
        CHECK.due("inverse of x^14", x.inverse(7, 2), 2);
        CHECK.register("x / 3", x, 7, 0, 21);
        for (int i = 0; i < 15; i++) {
            x.set(3, i, i + 1);
        }
        x.inverse(4, 3);
        CHECK.due("times(5, 3, 4)", x.times(5, 3, 4), 1);
        CHECK.register("they make 1", x, 5, 1);
    }

    /** Promise 20, register d being x. */
    private static void inverseInPlace() {
        PrimePolynomials x = Scene.full();
        CHECK.due("inverse(1, 1)", x.inverse(Scene.ELEMENT, Scene.ELEMENT), 2);
        CHECK.register("in place", x, Scene.ELEMENT, 5, 3);
        CHECK.due("inverse(1, 1), back", x.inverse(Scene.ELEMENT, Scene.ELEMENT), 2);
        SCENE.unchanged("after inverse of the inverse", x);
    }

    /** Promise 20: "NONE: no such register, no field, or x is 0 there." */
    private static void inverseRefused() {
        for (int r : Scene.NO_REGISTER) {
            SCENE.none("inverse(" + r + ", 1)", x -> x.inverse(r, 1));
            SCENE.none("inverse(1, " + r + ")", x -> x.inverse(1, r));
            SCENE.none("inverse(" + r + ", 7)", x -> x.inverse(r, 7));
            SCENE.noneWithout("inverse(" + r + ", 1)", x -> x.inverse(r, 1));
        }
        SCENE.noneWithout("inverse(2, 1)", x -> x.inverse(2, 1));
        SCENE.noneWithout("inverse(2, 7)", x -> x.inverse(2, 7));
        SCENE.none("inverse(1, 7), 0", x -> x.inverse(1, Scene.ZERO));
        SCENE.none("inverse(1, 2), 0 there", x -> x.inverse(1, Scene.NOT_MONIC));
        SCENE.none("inverse(2, 2), 0 there, in place", x -> x.inverse(2, Scene.NOT_MONIC));
    }

    /** Promise 21: sum and product are 0 where x is 0 there. */
    private static void traceOfZero() {
        PrimePolynomials x = Scene.full();
        for (int r : new int[] {Scene.ZERO, Scene.NOT_MONIC}) {
            CHECK.due("trace(" + r + ", false)", x.trace(r, false), 0);
            CHECK.due("trace(" + r + ", true)", x.trace(r, true), 0);
        }
    }

    /** Promise 21: "k of them": for a number k times and to the k-th, also where P divides k. */
    private static void traceOfNumbers() {
        PrimePolynomials x = Check.with(7, Check.row(1, 0, 1), Check.row(1), Check.row(6), Check.row(4));
        x.field(0);
        CHECK.due("sum for 1, k = 2", x.trace(1, false), 2);
        CHECK.due("product for 1, k = 2", x.trace(1, true), 1);
        CHECK.due("sum for -1, k = 2", x.trace(2, false), 5);
        CHECK.due("product for -1, k = 2", x.trace(2, true), 1);
        CHECK.due("sum for 4, k = 2", x.trace(3, false), 1);
        CHECK.due("product for 4, k = 2", x.trace(3, true), 2);
        x = Check.with(2, Check.row(1, 1, 1), Check.row(1), Check.row(0, 1));
        x.field(0);
        CHECK.due("sum for 1, P = k = 2", x.trace(1, false), 0);
        CHECK.due("product for 1, P = k = 2", x.trace(1, true), 1);
        CHECK.due("sum for x, P = k = 2", x.trace(2, false), 1);
        CHECK.due("product for x, P = k = 2", x.trace(2, true), 1);
        x = Check.with(3, Check.row(1, 2, 0, 1), Check.row(1), Check.row(2), Check.row(0, 1), Check.row(0, 0, 1));
        x.field(0);
        CHECK.due("sum for 1, P = k = 3", x.trace(1, false), 0);
        CHECK.due("product for 1, P = k = 3", x.trace(1, true), 1);
        CHECK.due("sum for 2, P = k = 3", x.trace(2, false), 0);
        CHECK.due("product for 2, P = k = 3", x.trace(2, true), 2);
        CHECK.due("sum for x, P = k = 3", x.trace(3, false), 0);
        CHECK.due("product for x, P = k = 3", x.trace(3, true), 2);
        CHECK.due("sum for x^2, P = k = 3", x.trace(4, false), 2);
        x = Check.with(MAX, Check.row(1, 0, 1), Check.row(-1), Check.row(-1, -1));
        x.field(0);
        CHECK.due("sum for -1, the greatest P", x.trace(1, false), MAX - 2);
        CHECK.due("product for -1, the greatest P", x.trace(1, true), 1);
        CHECK.due("sum for -x - 1, the greatest P", x.trace(2, false), MAX - 2);
        CHECK.due("product for -x - 1, the greatest P", x.trace(2, true), 2);
    }

    /** Promise 21 for k = 1: x itself is all. */
    private static void traceByDegreeOne() {
        PrimePolynomials x = Check.with(7, Check.row(-3, 1), Check.row(1, 1), Check.row(6), Check.row());
        x.field(0);
        int[] due = {0, 4, 6, 0};
        for (int r = 0; r < due.length; r++) {
            CHECK.due("trace(" + r + ", false) where x is 3", x.trace(r, false), due[r]);
            CHECK.due("trace(" + r + ", true) where x is 3", x.trace(r, true), due[r]);
        }
    }

    /** Promise 21: it works with the rest of x, of degree k and above. */
    private static void traceByRest() {
        PrimePolynomials x = Scene.full();
        // degree 15 is 2x + 1 there, degree 8 is x + 2
        CHECK.due("trace(6, false)", x.trace(Scene.DEGREE_15, false), 2);
        CHECK.due("trace(6, true)", x.trace(Scene.DEGREE_15, true), 5);
        CHECK.due("trace(5, false)", x.trace(Scene.DEGREE_8, false), 4);
        CHECK.due("trace(5, true)", x.trace(Scene.DEGREE_8, true), 5);
        // x^2 + 2 is 1 there
        CHECK.due("trace(0, false)", x.trace(Scene.OTHER_PRIME, false), 2);
        CHECK.due("trace(0, true)", x.trace(Scene.OTHER_PRIME, true), 1);
    }

    /** Promise 21 for k = 15. */
    private static void traceOfDegree15() {
        PrimePolynomials x = twoAnd15();
        x.set(3, 0, 1);
        CHECK.due("sum for x", x.trace(1, false), 0);
        CHECK.due("product for x", x.trace(1, true), 1);
        CHECK.due("sum for 1", x.trace(3, false), 1);
        CHECK.due("product for 1", x.trace(3, true), 1);
        // x^14 is 1 / x + 1, and the sum for 1 / x is 1, as for x^15 + x^14 + 1, which it makes 0
        CHECK.due("sum for x^14", x.trace(2, false), 0);
        x = thirtyOneAnd15();
        x.set(3, 0, 2);
        CHECK.due("sum for x", x.trace(1, false), 0);
        CHECK.due("product for x", x.trace(1, true), 3);
        CHECK.due("sum for x^14", x.trace(2, false), 0);
        CHECK.due("product for x^14", x.trace(2, true), 10);
        CHECK.due("sum for 2", x.trace(3, false), 30);
        CHECK.due("product for 2", x.trace(3, true), 1);
    }

    /** Promise 21, where other calls came since the field was made: it is by the polynomial of the field. */
    private static void traceBetweenOtherCalls() {
        // x^3 - x + 1 makes the field; then x^2 + 1, x^4 - 1 and its part x^2 - 1 are looked at
        PrimePolynomials x = Check.with(3, Check.row(1, 2, 0, 1), Check.row(0, 1), Check.row(0, 0, 1), Check.row(1, 0, 1), Check.row(2, 0, 0, 0, 1));
        x.field(0);
        CHECK.due("isPrime(3)", x.isPrime(3), 1);
        sumAndProduct("after isPrime", x);
        CHECK.due("factor(4)", x.factor(4), 2);
        sumAndProduct("after factor", x);
        CHECK.due("split(0, 1)", x.split(0, 1), 1);
        sumAndProduct("after split", x);
        CHECK.due("field(4), refused", x.field(4), NONE);
        sumAndProduct("after a refused field", x);
    }

    private static void sumAndProduct(String when, PrimePolynomials x) {
        CHECK.due(when + ": sum for x^2", x.trace(2, false), 2);
        CHECK.due(when + ": product for x", x.trace(1, true), 2);
        CHECK.due(when + ": sum for x", x.trace(1, false), 0);
    }

    /** Promise 21: it answers a number, and no register is changed. */
    private static void traceChangesNothing() {
        PrimePolynomials x = Scene.full();
        for (int r = 0; r < 8; r++) {
            x.trace(r, false);
            x.trace(r, true);
        }
        SCENE.unchanged("after trace of all", x);
    }

    /** Promise 21: "NONE: no such register, no field." */
    private static void traceRefused() {
        for (int r : Scene.NO_REGISTER) {
            SCENE.none("trace(" + r + ", false)", x -> x.trace(r, false));
            SCENE.none("trace(" + r + ", true)", x -> x.trace(r, true));
            SCENE.noneWithout("trace(" + r + ", true)", x -> x.trace(r, true));
        }
        for (int r = 0; r < 8; r++) {
            int of = r;
            SCENE.noneWithout("trace(" + r + ", false)", x -> x.trace(of, false));
            SCENE.noneWithout("trace(" + r + ", true)", x -> x.trace(of, true));
        }
    }
}
