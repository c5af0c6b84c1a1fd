/** The boundaries that promises 1 to 6 name; above each test stands the sentence that it is for. */
public final class RegistersBoundaryTest {
    private static final int NONE = PrimePolynomials.NONE;
    private static final int MIN = Integer.MIN_VALUE;
    private static final int MAX = Integer.MAX_VALUE;
    private static final int[] NO_INDEX = {-1, 16, MIN, MAX};
    private static final Check CHECK = new Check();
    private static final Scene SCENE = new Scene(CHECK);

    public static void main(String[] args) {
        greatestPrimeNotAbove();
        twoBelowTwo();
        allZeroAtFirst();
        noPartsAtFirst();
        noFieldAtFirst();
        objectsApart();
        primeStays();
        setModulo();
        setModuloAtTheEnds();
        setAnswersTheDegree();
        setAnswersAtLeastZero();
        setAtEachPlace();
        setRefused();
        coefficientAtEachPlace();
        coefficientRefused();
        sizes();
        sizeRefused();
        valueModulo();
        valueAtTheEnds();
        valueRefused();
        CHECK.end();
    }

    /** Promise 1: "P is the greatest prime that is not above p" */
    private static void greatestPrimeNotAbove() {
        int[][] due = {
            {2, 2}, {3, 3}, {4, 3}, {5, 5}, {6, 5}, {7, 7}, {8, 7}, {9, 7}, {10, 7}, {11, 11}, {24, 23}, {25, 23},
            {112, 109}, {113, 113}, {126, 113}, {127, 127}, {46340, 46337}, {46341, 46337}, {46349, 46349},
            {65536, 65521}, {2147483628, 2147483587}, {2147483629, 2147483629}, {MAX - 1, 2147483629}, {MAX, MAX}};
        for (int[] pair : due) {
            CHECK.due("new(" + pair[0] + "), prime()", new PrimePolynomials(pair[0]).prime(), pair[1]);
        }
    }

    /** Promise 1: "but 2 for p below 2" */
    private static void twoBelowTwo() {
        for (int p : new int[] {1, 0, -1, -2, -3, -7, MIN + 1, MIN}) {
            PrimePolynomials x = new PrimePolynomials(p);
            CHECK.due("new(" + p + "), prime()", x.prime(), 2);
            CHECK.due("new(" + p + "), set(0, 0, 3)", x.set(0, 0, 3), 0);
            CHECK.register("new(" + p + "), 3 is 1", x, 0, 1);
        }
    }

    /** Promise 1: "All registers are 0" */
    private static void allZeroAtFirst() {
        for (int p : new int[] {MIN, 2, 7, MAX}) {
            PrimePolynomials x = new PrimePolynomials(p);
            for (int r = 0; r < 8; r++) {
                CHECK.register("new(" + p + ")", x, r);
            }
        }
    }

    /** Promise 1: "there are no parts" */
    private static void noPartsAtFirst() {
        PrimePolynomials x = new PrimePolynomials(7);
        for (int k = -1; k <= 15; k++) {
            CHECK.due("new: part(" + k + ", 0)", x.part(k, 0), NONE);
            CHECK.due("new: part(" + k + ", 1)", x.part(k, 1), NONE);
            CHECK.due("new: part(" + k + ", 2)", x.part(k, 2), NONE);
            CHECK.due("new: part(" + k + ", 100)", x.part(k, 100), NONE);
            CHECK.due("new: split(" + k + ", 0)", x.split(k, 0), NONE);
        }
        CHECK.due("new: product(0)", x.product(0), NONE);
    }

    /** Promise 1: "and no field" */
    private static void noFieldAtFirst() {
        PrimePolynomials x = Check.with(7, Check.row(1));
        CHECK.due("new: times(1, 0, 0)", x.times(1, 0, 0), NONE);
        CHECK.due("new: inverse(1, 0)", x.inverse(1, 0), NONE);
        CHECK.due("new: trace(0, false)", x.trace(0, false), NONE);
        CHECK.due("new: trace(0, true)", x.trace(0, true), NONE);
        CHECK.register("new", x, 1);
    }

    /** Promise 1 holds for each object: what was done to another one does not show. */
    private static void objectsApart() {
        PrimePolynomials first = Scene.full();
        PrimePolynomials second = new PrimePolynomials(5);
        CHECK.register("second", second, Scene.DEGREE_15);
        SCENE.nothingMade("second", second);
        second.set(Scene.ELEMENT, 1, 4);
        second.factor(Scene.ELEMENT);
        second.set(Scene.ELEMENT, 1, 1);
        second.field(Scene.ELEMENT);
        SCENE.unchanged("first, the second being used", first);
    }

    /** Promise 2: "P" */
    private static void primeStays() {
        PrimePolynomials x = Scene.full();
        CHECK.due("prime()", x.prime(), 7);
        CHECK.due("prime() again", x.prime(), 7);
        SCENE.unchanged("after prime()", x);
    }

    /** Promise 3: "becomes c modulo P (0 .. P - 1, also for c below 0)" */
    private static void setModulo() {
        int[][] due = {
            {0, 0}, {1, 1}, {6, 6}, {7, 0}, {8, 1}, {13, 6}, {14, 0}, {-1, 6}, {-6, 1}, {-7, 0}, {-8, 6}, {-14, 0},
            {MAX, 1}, {MAX - 1, 0}, {MIN, 5}, {MIN + 1, 6}, {MIN + 2, 0}};
        for (int[] pair : due) {
            PrimePolynomials x = Check.with(7, Check.row(3, 3, 3));
            CHECK.due("set(0, 1, " + pair[0] + ")", x.set(0, 1, pair[0]), 2);
            CHECK.register("set(0, 1, " + pair[0] + ")", x, 0, 3, pair[1], 3);
        }
    }

    /** Promise 3, the same sentence for the least P and for the greatest. */
    private static void setModuloAtTheEnds() {
        int[][] least = {{0, 0}, {1, 1}, {2, 0}, {3, 1}, {-1, 1}, {-2, 0}, {-3, 1}, {MAX, 1}, {MIN, 0}};
        for (int[] pair : least) {
            PrimePolynomials x = new PrimePolynomials(2);
            x.set(0, 0, pair[0]);
            CHECK.due("P = 2, " + pair[0], x.coefficient(0, 0), pair[1]);
        }
        int[][] greatest = {
            {MAX, 0}, {MAX - 1, MAX - 1}, {-1, MAX - 1}, {MIN, MAX - 1}, {MIN + 1, 0}, {MIN + 2, 1}, {1, 1}};
        for (int[] pair : greatest) {
            PrimePolynomials x = new PrimePolynomials(MAX);
            x.set(0, 0, pair[0]);
            CHECK.due("P = " + MAX + ", " + pair[0], x.coefficient(0, 0), pair[1]);
        }
    }

    /** Promise 3: "the degree then" */
    private static void setAnswersTheDegree() {
        PrimePolynomials x = new PrimePolynomials(7);
        CHECK.due("set(0, 9, 1)", x.set(0, 9, 1), 9);
        CHECK.due("set(0, 4, 1), below the degree", x.set(0, 4, 1), 9);
        CHECK.due("set(0, 15, 1), above it", x.set(0, 15, 1), 15);
        CHECK.due("set(0, 15, 2), at it", x.set(0, 15, 2), 15);
        CHECK.due("set(0, 15, 7), to 0: the next one is at 9", x.set(0, 15, 7), 9);
        CHECK.due("set(0, 4, 0), below the degree", x.set(0, 4, 0), 9);
        CHECK.due("set(0, 1, 1)", x.set(0, 1, 1), 9);
        CHECK.due("set(0, 9, 0)", x.set(0, 9, 0), 1);
        CHECK.register("x", x, 0, 0, 1);
    }

    /** Promise 3: "but at least 0" */
    private static void setAnswersAtLeastZero() {
        PrimePolynomials x = new PrimePolynomials(7);
        CHECK.due("set(0, 0, 0) in 0", x.set(0, 0, 0), 0);
        CHECK.due("set(0, 15, 0) in 0", x.set(0, 15, 0), 0);
        CHECK.due("set(0, 15, -7) in 0", x.set(0, 15, -7), 0);
        CHECK.register("still 0", x, 0);
        CHECK.due("set(0, 0, 5), a number", x.set(0, 0, 5), 0);
        CHECK.register("a number", x, 0, 5);
        CHECK.due("set(0, 0, 0), it was a number", x.set(0, 0, 0), 0);
        CHECK.register("0 again", x, 0);
        x.set(0, 15, 1);
        CHECK.due("set(0, 15, 0), it was x^15", x.set(0, 15, 0), 0);
        CHECK.register("0 once more", x, 0);
    }

    /** Promise 3: every register and every i from 0 to 15 has a place of its own. */
    private static void setAtEachPlace() {
        PrimePolynomials x = new PrimePolynomials(257);
        for (int r = 0; r < 8; r++) {
            for (int i = 0; i < 16; i++) {
                CHECK.due("set(" + r + ", " + i + ", ..)", x.set(r, i, 16 * r + i + 1), i);
            }
        }
        for (int r = 0; r < 8; r++) {
            for (int i = 0; i < 16; i++) {
                CHECK.due("coefficient(" + r + ", " + i + ")", x.coefficient(r, i), 16 * r + i + 1);
            }
        }
    }

    /** Promise 3: "NONE: no such register, or i is not 0 .. 15." */
    private static void setRefused() {
        for (int r : Scene.NO_REGISTER) {
            SCENE.none("set(" + r + ", 0, 1)", x -> x.set(r, 0, 1));
            SCENE.none("set(" + r + ", 16, 1)", x -> x.set(r, 16, 1));
        }
        for (int i : NO_INDEX) {
            SCENE.none("set(0, " + i + ", 4)", x -> x.set(0, i, 4));
            SCENE.none("set(6, " + i + ", 0)", x -> x.set(6, i, 0));
        }
    }

    /** Promise 4: "Coefficient i", up to the degree, above it, and of 0. */
    private static void coefficientAtEachPlace() {
        PrimePolynomials x = Check.with(7, Check.row(4, 0, 5));
        CHECK.due("coefficient(0, 0)", x.coefficient(0, 0), 4);
        CHECK.due("coefficient(0, 1)", x.coefficient(0, 1), 0);
        CHECK.due("coefficient(0, 2), at the degree", x.coefficient(0, 2), 5);
        CHECK.due("coefficient(0, 3), above it", x.coefficient(0, 3), 0);
        CHECK.due("coefficient(0, 15)", x.coefficient(0, 15), 0);
        x.set(7, 15, 6);
        CHECK.due("coefficient(7, 15)", x.coefficient(7, 15), 6);
        CHECK.due("coefficient(7, 14)", x.coefficient(7, 14), 0);
        CHECK.due("coefficient(3, 0) of 0", x.coefficient(3, 0), 0);
        CHECK.due("coefficient(3, 15) of 0", x.coefficient(3, 15), 0);
    }

    /** Promise 4: "NONE: no such register, or i is not 0 .. 15." */
    private static void coefficientRefused() {
        for (int r : Scene.NO_REGISTER) {
            SCENE.none("coefficient(" + r + ", 0)", x -> x.coefficient(r, 0));
            SCENE.none("coefficient(" + r + ", 16)", x -> x.coefficient(r, 16));
        }
        for (int i : NO_INDEX) {
            SCENE.none("coefficient(6, " + i + ")", x -> x.coefficient(6, i));
        }
    }

    /** Promise 5: "The degree plus 1: 0 for 0." */
    private static void sizes() {
        PrimePolynomials x = new PrimePolynomials(7);
        CHECK.due("size(0) of 0", x.size(0), 0);
        for (int i = 0; i < 16; i++) {
            x.set(0, i, 6);
            CHECK.due("size(0) of degree " + i, x.size(0), i + 1);
        }
        for (int i = 15; i >= 0; i--) {
            x.set(0, i, 0);
            CHECK.due("size(0), coefficient " + i + " being gone", x.size(0), i);
        }
        CHECK.due("size(7)", x.size(7), 0);
    }

    /** Promise 5: "NONE: no such register." */
    private static void sizeRefused() {
        for (int r : Scene.NO_REGISTER) {
            SCENE.none("size(" + r + ")", x -> x.size(r));
        }
    }

    /** Promise 6: "at a number (modulo P as for set())" */
    private static void valueModulo() {
        // 2 + 3x + x^2 modulo 7
        PrimePolynomials x = Check.with(7, Check.row(2, 3, 1));
        int[][] due = {
            {0, 2}, {7, 2}, {-7, 2}, {14, 2}, {1, 6}, {8, 6}, {-6, 6}, {MAX, 6}, {-1, 0}, {6, 0}, {13, 0}, {-8, 0},
            {-2, 0}, {5, 0}, {MIN, 0}, {MIN + 1, 0}, {MIN + 2, 2}, {MIN + 3, 6}};
        for (int[] pair : due) {
            CHECK.due("value(0, " + pair[0] + ")", x.value(0, pair[0]), pair[1]);
        }
        CHECK.register("value changes nothing", x, 0, 2, 3, 1);
    }

    /** Promise 6: of 0, of a number, of degree 15, for the least P and for the greatest. */
    private static void valueAtTheEnds() {
        PrimePolynomials x = Check.with(MAX, Check.row(), Check.row(-1));
        x.set(2, 15, -1);
        CHECK.due("0 at -1", x.value(0, -1), 0);
        CHECK.due("-1 at 0", x.value(1, 0), MAX - 1);
        CHECK.due("-1 at -1", x.value(1, -1), MAX - 1);
        CHECK.due("-x^15 at -1", x.value(2, -1), 1);
        CHECK.due("-x^15 at P - 1", x.value(2, MAX - 1), 1);
        CHECK.due("-x^15 at the least int, which is -1", x.value(2, MIN), 1);
        CHECK.due("-x^15 at P", x.value(2, MAX), 0);
        // 2^31 is 1 modulo P: 2^30 = 4^15
        CHECK.due("-x^15 at 4", x.value(2, 4), MAX - (1 << 30));
        x = Check.with(2, Check.row(1, 1), Check.row(1, 1, 1));
        CHECK.due("x + 1 at 1", x.value(0, 1), 0);
        CHECK.due("x + 1 at 2", x.value(0, 2), 1);
        CHECK.due("x + 1 at -1", x.value(0, -1), 0);
        CHECK.due("x^2 + x + 1 at -1", x.value(1, -1), 1);
    }

    /** Promise 6: "NONE: no such register." */
    private static void valueRefused() {
        for (int r : Scene.NO_REGISTER) {
            SCENE.none("value(" + r + ", 1)", x -> x.value(r, 1));
        }
    }
}
