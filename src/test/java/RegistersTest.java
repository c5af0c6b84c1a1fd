/** Promises 1 to 6: a new object, prime, set, coefficient, size and value. */
public final class RegistersTest {
    private static final int NONE = PrimePolynomials.NONE;
    private static final int[] NO_REGISTER = {-1, 8, Integer.MIN_VALUE, Integer.MAX_VALUE};
    private static final int[] NO_INDEX = {-1, 16, Integer.MIN_VALUE, Integer.MAX_VALUE};
    private static final Check CHECK = new Check();

    public static void main(String[] args) {
        primes();
        newObject();
        setting();
        wrongPlaces();
        values();
        CHECK.end();
    }

    private static void primes() {
        int[][] due = {
            {Integer.MIN_VALUE, 2}, {-7, 2}, {0, 2}, {1, 2}, {2, 2}, {3, 3}, {4, 3}, {5, 5}, {6, 5}, {9, 7}, {10, 7},
            {25, 23}, {49, 47}, {100, 97}, {121, 113}, {126, 113}, {127, 127}, {65536, 65521}, {65537, 65537},
            {1000000007, 1000000007}, {1000000006, 999999937}, {2147483647, 2147483647}, {2147483646, 2147483629},
            {2147302920, 2147302891}, {2147117569, 2147117563}, {2147117568, 2147117563}, {2147395600, 2147395589}};
        for (int[] pair : due) {
            CHECK.due("new(" + pair[0] + "), prime()", new PrimePolynomials(pair[0]).prime(), pair[1]);
        }
        int last = 2;
        for (int p = 2; p < 3000; p++) {
            last = java.math.BigInteger.valueOf(p).isProbablePrime(50) ? p : last;
            CHECK.due("new(" + p + "), prime()", new PrimePolynomials(p).prime(), last);
        }
    }

    private static void newObject() {
        PrimePolynomials x = new PrimePolynomials(5);
        for (int r = 0; r < 8; r++) {
            CHECK.register("new object", x, r);
        }
        CHECK.due("part(0, 0)", x.part(0, 0), NONE);
        CHECK.due("product(0)", x.product(0), NONE);
        CHECK.due("trace(0, false)", x.trace(0, false), NONE);
        CHECK.due("trace(0, true)", x.trace(0, true), NONE);
        CHECK.due("times(0, 0, 0)", x.times(0, 0, 0), NONE);
    }

    private static void setting() {
        PrimePolynomials x = new PrimePolynomials(7);
        CHECK.due("set(0, 0, 0)", x.set(0, 0, 0), 0);
        CHECK.due("set(0, 5, 7)", x.set(0, 5, 7), 0);
        CHECK.register("0 set", x, 0);
        CHECK.due("set(0, 15, -1)", x.set(0, 15, -1), 15);
        CHECK.due("set(0, 3, -15)", x.set(0, 3, -15), 15);
        CHECK.due("set(0, 0, 20)", x.set(0, 0, 20), 15);
        CHECK.register("set", x, 0, 6, 0, 0, 6, 0, 0, 0, 0, 0, 0, 0, 0, 0, 0, 0, 6);
        CHECK.due("set(0, 15, 14)", x.set(0, 15, 14), 3);
        CHECK.due("set(0, 3, 0)", x.set(0, 3, 0), 0);
        CHECK.register("lower", x, 0, 6);
        CHECK.due("set(0, 0, -7)", x.set(0, 0, -7), 0);
        CHECK.register("0 again", x, 0);
        CHECK.due("set(7, 1, MIN)", x.set(7, 1, Integer.MIN_VALUE), 1);
        CHECK.register("least int", x, 7, 0, 5);
        CHECK.register("others stay", x, 6);
        PrimePolynomials big = new PrimePolynomials(Integer.MAX_VALUE);
        CHECK.due("set(3, 2, MIN)", big.set(3, 2, Integer.MIN_VALUE), 2);
        CHECK.due("set(3, 1, MAX)", big.set(3, 1, Integer.MAX_VALUE), 2);
        CHECK.register("greatest prime", big, 3, 0, 0, 2147483646);
    }

    private static void wrongPlaces() {
        PrimePolynomials x = Check.with(7, Check.row(1, 2, 3));
        for (int r : NO_REGISTER) {
            CHECK.due("set(" + r + ", 0, 1)", x.set(r, 0, 1), NONE);
            CHECK.due("coefficient(" + r + ", 0)", x.coefficient(r, 0), NONE);
            CHECK.due("size(" + r + ")", x.size(r), NONE);
            CHECK.due("value(" + r + ", 1)", x.value(r, 1), NONE);
        }
        for (int i : NO_INDEX) {
            CHECK.due("set(0, " + i + ", 1)", x.set(0, i, 1), NONE);
            CHECK.due("coefficient(0, " + i + ")", x.coefficient(0, i), NONE);
        }
        CHECK.register("nothing is changed", x, 0, 1, 2, 3);
    }

    private static void values() {
        PrimePolynomials x = Check.with(7, Check.row(1, 2, 3), Check.row(4));
        CHECK.due("value(0, 0)", x.value(0, 0), 1);
        CHECK.due("value(0, 2)", x.value(0, 2), 3);
        CHECK.due("value(0, 9)", x.value(0, 9), 3);
        CHECK.due("value(0, -1)", x.value(0, -1), 2);
        CHECK.due("value(0, MIN)", x.value(0, Integer.MIN_VALUE), 1 + 2 * 5 + 3 * 25 - 84);
        CHECK.due("value(1, 6)", x.value(1, 6), 4);
        CHECK.due("value(2, 6)", x.value(2, 6), 0);
        PrimePolynomials big = new PrimePolynomials(Integer.MAX_VALUE);
        for (int i = 0; i < 16; i++) {
            big.set(0, i, -1);
        }
        CHECK.due("value(0, -1)", big.value(0, -1), 0);
        CHECK.due("value(0, 1)", big.value(0, 1), 2147483631);
        big.set(0, 15, 0);
        CHECK.due("value(0, -1)", big.value(0, -1), 2147483646);
    }
}
