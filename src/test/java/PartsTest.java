/** Promises 13 to 17: isPrime, factor, part, split and product. */
public final class PartsTest {
    private static final int NONE = PrimePolynomials.NONE;
    private static final int[] NO_REGISTER = {-1, 8, Integer.MIN_VALUE, Integer.MAX_VALUE};
    private static final Check CHECK = new Check();

    public static void main(String[] args) {
        primes();
        primesCounted();
        factoring();
        order();
        repeated();
        parts();
        splittingOdd();
        splittingTwo();
        splittingAmongOthers();
        splittingGreatestPrime();
        products();
        CHECK.end();
    }

    private static void primes() {
        PrimePolynomials x = Check.with(3,
            Check.row(0, 2), Check.row(2), Check.row(1, 0, 2), Check.row(1, 0, 1), Check.row(2, 0, 2),
            Check.row(1, 0, 2, 0, 1), Check.row(0, 0, 1));
        CHECK.due("isPrime of degree 1", x.isPrime(0), 1);
        CHECK.due("isPrime of a number", x.isPrime(1), 0);
        CHECK.due("isPrime of 2x^2 + 1", x.isPrime(2), 0);
        CHECK.due("isPrime of x^2 + 1", x.isPrime(3), 1);
        CHECK.due("isPrime of 2x^2 + 2, not monic", x.isPrime(4), 1);
        CHECK.due("isPrime of (x^2 + 1)^2", x.isPrime(5), 0);
        CHECK.due("isPrime of x^2", x.isPrime(6), 0);
        CHECK.due("isPrime of 0", x.isPrime(7), 0);
        for (int r : NO_REGISTER) {
            CHECK.due("isPrime(" + r + ")", x.isPrime(r), NONE);
        }
        CHECK.register("isPrime changes nothing", x, 4, 2, 0, 2);
    }

    /** How many monic polynomials of each degree are prime is known (Gauss). */
    private static void primesCounted() {
        int[][] due = {{2, 2, 1, 2, 3, 6, 9, 18, 30, 56, 99, 186}, {3, 3, 3, 8, 18, 48, 116}, {5, 5, 10, 40, 150}, {7, 7, 21, 112}};
        for (int[] row : due) {
            int p = row[0];
            int many = 1;
            for (int n = 1; n < row.length; n++) {
                many *= p;
                int count = 0;
                for (int code = 0; code < many; code++) {
                    PrimePolynomials x = new PrimePolynomials(p);
                    int left = code;
                    for (int i = 0; i < n; i++) {
                        x.set(0, i, left % p);
                        left /= p;
                    }
                    x.set(0, n, 1);
                    count += x.isPrime(0);
                }
                CHECK.due("prime ones of degree " + n + " modulo " + p, count, row[n]);
            }
        }
    }

    private static void factoring() {
        PrimePolynomials x = Check.with(7, Check.row(6, 0, 1), Check.row(3), Check.row(3, 5), Check.row(2, 0, 2));
        CHECK.due("factor of a number", x.factor(1), 0);
        CHECK.due("part(0, 0)", x.part(0, 0), NONE);
        CHECK.due("factor of degree 1", x.factor(2), 1);
        CHECK.part("monic", x, 0, 1, 1, 2, 1);
        CHECK.due("factor of a prime one", x.factor(3), 1);
        CHECK.part("monic", x, 0, 1, 2, 1, 0, 1);
        CHECK.due("factor of x^2 - 1", x.factor(0), 1);
        CHECK.part("x^2 - 1", x, 0, 1, 1, 6, 0, 1);
        CHECK.due("factor of 0", x.factor(7), NONE);
        for (int r : NO_REGISTER) {
            CHECK.due("factor(" + r + ")", x.factor(r), NONE);
        }
        CHECK.part("parts stay", x, 0, 1, 1, 6, 0, 1);
        x.set(0, 0, 0);
        CHECK.part("parts are of what it was", x, 0, 1, 1, 6, 0, 1);
        CHECK.due("factor of x^2", x.factor(0), 1);
        CHECK.part("x^2", x, 0, 2, 1, 0, 1);
        CHECK.due("part(1, 0)", x.part(1, 0), NONE);
        CHECK.register("factor changes no register", x, 2, 3, 5);
    }

    /**
     * By e first, then by d, modulo 2: x^3 (x + 1) (x^2 + x + 1)^3, and then
     * x^2 (x + 1)^2 (x^2 + x + 1) (x^3 + x + 1) (x^3 + x^2 + 1).
     */
    private static void order() {
        PrimePolynomials x = Check.with(2,
            Check.row(0, 0, 0, 1), Check.row(1, 1), Check.row(1, 1, 1), Check.row(1, 1, 0, 1), Check.row(1, 0, 1, 1));
        x.multiply(0, 0, 2);
        x.multiply(0, 0, 2);
        x.multiply(0, 0, 2);
        x.multiply(0, 0, 1);
        CHECK.due("size", x.size(0), 11);
        CHECK.due("factor", x.factor(0), 3);
        CHECK.part("first", x, 0, 1, 1, 1, 1);
        CHECK.part("second", x, 1, 3, 1, 0, 1);
        CHECK.part("third", x, 2, 3, 2, 1, 1, 1);
        x.multiply(5, 3, 4);
        x.multiply(5, 5, 2);
        x.multiply(5, 5, 1);
        x.multiply(5, 5, 1);
        x.set(6, 1, 1);
        x.multiply(5, 5, 6);
        x.multiply(5, 5, 6);
        CHECK.due("size", x.size(5), 13);
        CHECK.due("factor", x.factor(5), 3);
        CHECK.part("first", x, 0, 1, 2, 1, 1, 1);
        CHECK.part("second", x, 1, 1, 3, 1, 1, 1, 1, 1, 1, 1);
        CHECK.part("third", x, 2, 2, 1, 0, 1, 1);
    }

    /** Multiples of P as exponents, where the derivative says nothing. */
    private static void repeated() {
        for (int p : new int[] {2, 3, 5, 7, 11, 13}) {
            for (int e = 1; e <= 15; e++) {
                PrimePolynomials x = Check.with(p, Check.row(1), Check.row(1, 1));
                for (int i = 0; i < e; i++) {
                    x.multiply(0, 0, 1);
                }
                CHECK.due("factor of (x + 1)^" + e + " modulo " + p, x.factor(0), 1);
                CHECK.part("(x + 1)^" + e + " modulo " + p, x, 0, e, 1, 1, 1);
            }
        }
        // x^6 (x + 1)^3 (x + 2)^4 modulo 3
        PrimePolynomials x = Check.with(3, Check.row(0, 0, 0, 0, 0, 0, 1), Check.row(1, 1), Check.row(2, 1));
        for (int i = 0; i < 3; i++) {
            x.multiply(0, 0, 1);
        }
        for (int i = 0; i < 4; i++) {
            x.multiply(0, 0, 2);
        }
        CHECK.due("factor", x.factor(0), 3);
        CHECK.part("e = 3", x, 0, 3, 1, 1, 1);
        CHECK.part("e = 4", x, 1, 4, 1, 2, 1);
        CHECK.part("e = 6", x, 2, 6, 1, 0, 1);
        // All that can be: x^15 - 1 modulo 2
        x = new PrimePolynomials(2);
        x.set(0, 15, 1);
        x.set(0, 0, 1);
        CHECK.due("factor of x^15 - 1", x.factor(0), 3);
        CHECK.part("d = 1", x, 0, 1, 1, 1, 1);
        CHECK.part("d = 2", x, 1, 1, 2, 1, 1, 1);
        CHECK.part("d = 4", x, 2, 1, 4, 1, 0, 0, 1, 0, 0, 1, 0, 0, 1, 0, 0, 1);
    }

    private static void parts() {
        PrimePolynomials x = Check.with(7, Check.row(6, 0, 1));
        x.factor(0);
        for (int what : new int[] {-1, 3, 99, 116, 200, Integer.MIN_VALUE, Integer.MAX_VALUE}) {
            CHECK.due("part(0, " + what + ")", x.part(0, what), NONE);
        }
        for (int k : new int[] {-1, 1, 14, 15, 16, Integer.MIN_VALUE, Integer.MAX_VALUE}) {
            CHECK.due("part(" + k + ", 0)", x.part(k, 0), NONE);
            CHECK.due("part(" + k + ", 100)", x.part(k, 100), NONE);
        }
        CHECK.due("part(0, 115)", x.part(0, 115), 0);
    }

    private static void splittingOdd() {
        // (x - 1)(x - 2)(x - 3) modulo 7: 1 and 2 are squares there, 3 is not
        PrimePolynomials x = Check.with(7, Check.row(1, 4, 1, 1), Check.row(0, 1), Check.row(1), Check.row(3));
        CHECK.due("split without parts", x.split(0, 1), NONE);
        CHECK.due("factor", x.factor(0), 1);
        CHECK.due("split by 0", x.split(0, 7), 0);
        CHECK.due("split by a square number", x.split(0, 2), 0);
        CHECK.due("split by another number", x.split(0, 3), 0);
        CHECK.part("nothing is changed", x, 0, 1, 1, 1, 4, 1, 1);
        for (int r : NO_REGISTER) {
            CHECK.due("split(0, " + r + ")", x.split(0, r), NONE);
            CHECK.due("split(" + r + ", 1)", x.split(r, 1), NONE);
        }
        CHECK.due("split(1, 1)", x.split(1, 1), NONE);
        CHECK.due("split by x", x.split(0, 1), 1);
        CHECK.part("squares", x, 0, 1, 1, 2, 4, 1);
        CHECK.part("the rest of it", x, 1, 1, 1, 4, 1);
        CHECK.due("split(1, 1), complete", x.split(1, 1), NONE);
        CHECK.due("split(2, 1), none such", x.split(2, 1), NONE);
        CHECK.due("split by x again", x.split(0, 1), 0);
        x.set(1, 0, 1);
        // 1 + 1 = 2 is a square, 2 + 1 = 3 is not
        CHECK.due("split by x + 1", x.split(0, 1), 1);
        CHECK.part("1", x, 0, 1, 1, 6, 1);
        CHECK.part("2", x, 1, 1, 1, 5, 1);
        CHECK.part("3", x, 2, 1, 1, 4, 1);
        CHECK.due("part(3, 0)", x.part(3, 0), NONE);
        // modulo 3 the exponent for d = 1 is 1: u is a - 1
        x = Check.with(3, Check.row(0, 2, 0, 1), Check.row(1, 1, 0, 0, 0, 1));
        CHECK.due("factor of x^3 - x", x.factor(0), 1);
        CHECK.due("split", x.split(0, 1), 1);
        CHECK.part("where x^5 + x + 1 is 1", x, 0, 1, 1, 0, 1);
        CHECK.part("elsewhere", x, 1, 1, 1, 2, 0, 1);
    }

    private static void splittingTwo() {
        // (x^3 + x + 1)(x^3 + x^2 + 1) modulo 2: the sum x + x^2 + x^4 is 0 by the first, 1 by the other
        PrimePolynomials x = Check.with(2, Check.row(1, 1, 1, 1, 1, 1, 1), Check.row(0, 1), Check.row(1), Check.row(0, 1, 1));
        CHECK.due("factor", x.factor(0), 1);
        CHECK.part("both", x, 0, 1, 3, 1, 1, 1, 1, 1, 1, 1);
        CHECK.due("split by 0", x.split(0, 7), 0);
        CHECK.due("split by 1", x.split(0, 2), 0);
        CHECK.due("split by x^2 + x", x.split(0, 3), 0);
        CHECK.due("split by x", x.split(0, 1), 1);
        CHECK.part("first", x, 0, 1, 3, 1, 1, 0, 1);
        CHECK.part("second", x, 1, 1, 3, 1, 0, 1, 1);
        CHECK.due("split, complete", x.split(0, 1), NONE);
        // x(x + 1): u is a itself
        x = Check.with(2, Check.row(0, 1, 1), Check.row(1, 0, 1));
        CHECK.due("factor", x.factor(0), 1);
        CHECK.due("split by x^2 + 1", x.split(0, 1), 1);
        CHECK.part("x + 1", x, 0, 1, 1, 1, 1);
        CHECK.part("x", x, 1, 1, 1, 0, 1);
    }

    /** x(x + 1) and (x + 2)^2 (x + 3)^2 and (x + 4)^3 modulo 5, the first split in front of others. */
    private static void splittingAmongOthers() {
        PrimePolynomials x = Check.with(5,
            Check.row(0, 3, 3), Check.row(2, 1), Check.row(3, 1), Check.row(4, 1), Check.row(2, 1));
        for (int e = 0; e < 2; e++) {
            x.multiply(0, 0, 1);
            x.multiply(0, 0, 2);
        }
        for (int e = 0; e < 3; e++) {
            x.multiply(0, 0, 3);
        }
        CHECK.due("factor", x.factor(0), 3);
        CHECK.part("e = 1", x, 0, 1, 1, 0, 1, 1);
        CHECK.part("e = 2", x, 1, 2, 1, 1, 0, 1);
        CHECK.part("e = 3", x, 2, 3, 1, 4, 1);
        // at 0 it is 2, no square; at -1 it is 1
        CHECK.due("split(0, 4)", x.split(0, 4), 1);
        CHECK.part("first half", x, 0, 1, 1, 1, 1);
        CHECK.part("second half", x, 1, 1, 1, 0, 1);
        CHECK.part("moved", x, 2, 2, 1, 1, 0, 1);
        CHECK.part("moved", x, 3, 3, 1, 4, 1);
        // at -2 it is 0, at -3 it is -1, a square modulo 5
        CHECK.due("split(2, 4)", x.split(2, 4), 1);
        CHECK.part("second half stays", x, 1, 1, 1, 0, 1);
        CHECK.part("where it is a square", x, 2, 2, 1, 3, 1);
        CHECK.part("where it is not", x, 3, 2, 1, 2, 1);
        CHECK.part("moved", x, 4, 3, 1, 4, 1);
        CHECK.due("part(5, 0)", x.part(5, 0), NONE);
        CHECK.due("product(7)", x.product(7), 10);
        CHECK.due("add(6, 7, 0, -1)", x.add(6, 7, 0, -1), 0);
    }

    private static void splittingGreatestPrime() {
        int p = Integer.MAX_VALUE;
        // -1 is no square modulo P, 4 is one: (x - 4)(x + 1)
        PrimePolynomials x = Check.with(p, Check.row(-4, -3, 1), Check.row(0, 1));
        CHECK.due("factor", x.factor(0), 1);
        CHECK.due("split", x.split(0, 1), 1);
        CHECK.part("4", x, 0, 1, 1, p - 4, 1);
        CHECK.part("-1", x, 1, 1, 1, 1, 1);
        // (x^2 + 1)(x^2 + 4), both prime: by x^2 + 1 the product (x + a)(x + a)^P is a^2 + 1, by the other a^2 + 4
        x = Check.with(p, Check.row(4, 0, 5, 0, 1), Check.row(0, 1), Check.row(2, 1));
        CHECK.due("factor", x.factor(0), 1);
        CHECK.part("d = 2", x, 0, 1, 2, 4, 0, 5, 0, 1);
        CHECK.due("split by x: 1 and 4 are squares", x.split(0, 1), 0);
        // 8 is a square (2 is one, as P is 7 modulo 8); 5 is none (P is 2 modulo 5)
        CHECK.due("split by x + 2", x.split(0, 2), 1);
        CHECK.part("where the product is 8", x, 0, 1, 2, 4, 0, 1);
        CHECK.part("where it is 5", x, 1, 1, 2, 1, 0, 1);
    }

    private static void products() {
        PrimePolynomials x = Check.with(5, Check.row(3, 1, 4, 0, 2), Check.row(2));
        CHECK.due("product before factor", x.product(2), NONE);
        CHECK.due("factor(7), of 0", x.factor(7), NONE);
        CHECK.due("product, nothing was factored", x.product(2), NONE);
        CHECK.register("nothing is changed", x, 2);
        x.factor(0);
        for (int r : NO_REGISTER) {
            CHECK.due("product(" + r + ")", x.product(r), NONE);
        }
        x.set(0, 0, 0);
        CHECK.due("product(2)", x.product(2), 5);
        CHECK.register("what was factored", x, 2, 3, 1, 4, 0, 2);
        x.factor(7);
        CHECK.due("product(2) after a factor of 0", x.product(3), 5);
        CHECK.register("what was factored", x, 3, 3, 1, 4, 0, 2);
        CHECK.due("factor of a number", x.factor(1), 0);
        CHECK.due("product(2)", x.product(2), 1);
        CHECK.register("a number", x, 2, 2);
    }
}
