import java.math.BigInteger;
import java.util.ArrayList;
import java.util.Arrays;
import java.util.List;

/**
 * The document once more, written as plainly as its words: rows of numbers without zeros at the end,
 * powers by their whole exponents, and, for small primes, factoring by trying all divisors.
 */
final class Model {
    static final int NONE = -1;
    static final int FULL = -2;
    static final long[] ZERO = {};
    static final long[] ONE = {1};
    static final long[] X = {0, 1};

    /** Up to this prime all divisors are tried. */
    private static final int FEW = 7;

    record Part(int e, int d, long[] polynomial) { }

    final long p;
    final long[][] registers = new long[8][];
    List<Part> parts = new ArrayList<>();
    private long lead;
    private long[] base;

    Model(int limit) {
        BigInteger n = BigInteger.valueOf(Math.max(limit, 2));
        while (!n.isProbablePrime(60)) {
            n = n.subtract(BigInteger.ONE);
        }
        p = n.longValue();
        Arrays.fill(registers, ZERO);
    }

    private static boolean bad(int... names) {
        for (int r : names) {
            if (r < 0 || r > 7) {
                return true;
            }
        }
        return false;
    }

    private int store(int d, long[] row) {
        registers[d] = row;
        return row.length;
    }

    int set(int r, int i, int c) {
        if (bad(r) || i < 0 || i > 15) {
            return NONE;
        }
        long[] row = Arrays.copyOf(registers[r], 16);
        row[i] = Math.floorMod((long) c, p);
        registers[r] = trim(row);
        return Math.max(0, registers[r].length - 1);
    }

    int coefficient(int r, int i) {
        return bad(r) || i < 0 || i > 15 ? NONE : (int) at(registers[r], i);
    }

    int size(int r) {
        return bad(r) ? NONE : registers[r].length;
    }

    int value(int r, int at) {
        if (bad(r)) {
            return NONE;
        }
        BigInteger total = BigInteger.ZERO;
        for (int i = 0; i < registers[r].length; i++) {
            total = total.add(BigInteger.valueOf(at).pow(i).multiply(BigInteger.valueOf(registers[r][i])));
        }
        return total.mod(BigInteger.valueOf(p)).intValue();
    }

    int add(int d, int x, int y, int factor) {
        if (bad(d, x, y)) {
            return NONE;
        }
        return store(d, plus(registers[x], mul(registers[y], number(factor))));
    }

    int multiply(int d, int x, int y) {
        if (bad(d, x, y)) {
            return NONE;
        }
        long[] row = mul(registers[x], registers[y]);
        return row.length > 16 ? FULL : store(d, row);
    }

    int divide(int q, int r, int x, int y) {
        if (bad(q, r, x, y) || registers[y].length == 0) {
            return NONE;
        }
        long[] quotient = quotient(registers[x], registers[y]);
        long[] rest = rest(registers[x], registers[y]);
        store(q, quotient);
        return store(r, rest);
    }

    int common(int d, int x, int y) {
        return bad(d, x, y) ? NONE : store(d, gcd(registers[x], registers[y]));
    }

    int power(int d, int x, long e, int m) {
        if (bad(d, x, m) || registers[m].length == 0 || e < 0) {
            return NONE;
        }
        return store(d, pow(registers[x], BigInteger.valueOf(e), registers[m]));
    }

    int derive(int d, int x) {
        return bad(d, x) ? NONE : store(d, derivative(registers[x]));
    }

    int isPrime(int r) {
        return bad(r) ? NONE : primeRow(registers[r]) ? 1 : 0;
    }

    int factor(int r) {
        if (bad(r) || registers[r].length == 0) {
            return NONE;
        }
        lead = registers[r][registers[r].length - 1];
        parts = partsOf(monic(registers[r]));
        return parts.size();
    }

    int part(int k, int what) {
        if (k < 0 || k >= parts.size()) {
            return NONE;
        }
        Part part = parts.get(k);
        if (what == 0) {
            return part.e;
        }
        if (what == 1) {
            return part.d;
        }
        if (what == 2) {
            return part.polynomial.length - 1;
        }
        return what >= 100 && what <= 115 ? (int) at(part.polynomial, what - 100) : NONE;
    }

    int split(int k, int r) {
        if (k < 0 || k >= parts.size() || bad(r)) {
            return NONE;
        }
        Part part = parts.get(k);
        long[] g = part.polynomial;
        if (g.length - 1 == part.d) {
            return NONE;
        }
        long[] u = ZERO;
        if (p == 2) {
            for (int i = 0; i < part.d; i++) {
                u = plus(u, pow(registers[r], BigInteger.TWO.pow(i), g));
            }
        } else {
            BigInteger e = BigInteger.valueOf(p).pow(part.d).subtract(BigInteger.ONE).shiftRight(1);
            u = plus(pow(registers[r], e, g), number(-1));
        }
        long[] h = gcd(u, g);
        if (h.length < 2 || h.length >= g.length) {
            return 0;
        }
        parts.set(k, new Part(part.e, part.d, h));
        parts.add(k + 1, new Part(part.e, part.d, quotient(g, h)));
        return 1;
    }

    int product(int d) {
        if (bad(d) || lead == 0) {
            return NONE;
        }
        long[] total = number(lead);
        for (Part part : parts) {
            for (int i = 0; i < part.e; i++) {
                total = mul(total, part.polynomial);
            }
        }
        return store(d, total);
    }

    int field(int r) {
        if (bad(r) || !primeRow(registers[r]) || registers[r][registers[r].length - 1] != 1) {
            return NONE;
        }
        base = registers[r];
        return base.length - 1;
    }

    int times(int d, int x, int y) {
        if (bad(d, x, y) || base == null) {
            return NONE;
        }
        return store(d, rest(mul(rest(registers[x], base), rest(registers[y], base)), base));
    }

    int inverse(int d, int x) {
        if (bad(d, x) || base == null || rest(registers[x], base).length == 0) {
            return NONE;
        }
        BigInteger e = BigInteger.valueOf(p).pow(base.length - 1).subtract(BigInteger.TWO);
        return store(d, pow(registers[x], e, base));
    }

    int trace(int x, boolean which) {
        if (bad(x) || base == null) {
            return NONE;
        }
        long[] total = which ? ONE : ZERO;
        for (int i = 0; i < base.length - 1; i++) {
            long[] next = pow(registers[x], BigInteger.valueOf(p).pow(i), base);
            total = which ? rest(mul(total, next), base) : plus(total, next);
        }
        if (total.length > 1) {
            throw new IllegalStateException("the model is wrong: no number");
        }
        return (int) at(total, 0);
    }

    private static long at(long[] row, int i) {
        return i < row.length ? row[i] : 0;
    }

    private static long[] trim(long[] row) {
        int n = row.length;
        while (n > 0 && row[n - 1] == 0) {
            n--;
        }
        return Arrays.copyOf(row, n);
    }

    private long[] number(long n) {
        return trim(new long[] {Math.floorMod(n, p)});
    }

    private long[] plus(long[] a, long[] b) {
        long[] sum = new long[Math.max(a.length, b.length)];
        for (int i = 0; i < sum.length; i++) {
            sum[i] = (at(a, i) + at(b, i)) % p;
        }
        return trim(sum);
    }

    private long[] mul(long[] a, long[] b) {
        long[] product = new long[a.length + b.length];
        for (int i = 0; i < a.length; i++) {
            for (int j = 0; j < b.length; j++) {
                product[i + j] = (product[i + j] + a[i] * b[j]) % p;
            }
        }
        return trim(product);
    }

    private long reciprocal(long n) {
        return BigInteger.valueOf(n).modInverse(BigInteger.valueOf(p)).longValue();
    }

    private long[] monic(long[] a) {
        return a.length == 0 ? a : mul(a, number(reciprocal(a[a.length - 1])));
    }

    private long[][] division(long[] a, long[] b) {
        long[] rest = a.clone();
        long[] quotient = new long[Math.max(0, a.length - b.length + 1)];
        long top = b[b.length - 1] == 1 ? 1 : reciprocal(b[b.length - 1]);
        for (int i = a.length - 1; i >= b.length - 1; i--) {
            long factor = rest[i] * top % p;
            int shift = i - b.length + 1;
            quotient[shift] = factor;
            for (int j = 0; j < b.length; j++) {
                rest[shift + j] = Math.floorMod(rest[shift + j] - factor * b[j], p);
            }
        }
        return new long[][] {trim(quotient), trim(rest)};
    }

    private long[] quotient(long[] a, long[] b) {
        return division(a, b)[0];
    }

    private long[] rest(long[] a, long[] b) {
        return division(a, b)[1];
    }

    private long[] gcd(long[] a, long[] b) {
        return b.length == 0 ? monic(a) : gcd(b, rest(a, b));
    }

    private long[] pow(long[] a, BigInteger e, long[] m) {
        long[] total = rest(ONE, m);
        for (int bit = e.bitLength() - 1; bit >= 0; bit--) {
            total = rest(mul(total, total), m);
            if (e.testBit(bit)) {
                total = rest(mul(total, rest(a, m)), m);
            }
        }
        return total;
    }

    private long[] derivative(long[] a) {
        long[] result = new long[a.length];
        for (int i = 1; i < a.length; i++) {
            result[i - 1] = i * a[i] % p;
        }
        return trim(result);
    }

    private boolean primeRow(long[] a) {
        if (a.length < 2) {
            return false;
        }
        List<Part> of = partsOf(monic(a));
        return of.size() == 1 && of.get(0).e == 1 && of.get(0).d == a.length - 1;
    }

    private List<Part> partsOf(long[] f) {
        long[][][] table = new long[16][16][];
        if (p <= FEW) {
            tryAll(table, f);
        } else if (p <= 15) {
            // Only those of degree 1 can divide as often as P.
            byDerivative(table, tryDegree(table, f, 1));
        } else {
            byDerivative(table, f);
        }
        List<Part> list = new ArrayList<>();
        for (int e = 1; e < 16; e++) {
            for (int d = 1; d < 16; d++) {
                if (table[e][d] != null) {
                    list.add(new Part(e, d, table[e][d]));
                }
            }
        }
        return list;
    }

    private void enter(long[][][] table, int e, int d, long[] factor) {
        table[e][d] = table[e][d] == null ? factor : mul(table[e][d], factor);
    }

    private void tryAll(long[][][] table, long[] f) {
        long[] left = f;
        for (int d = 1; 2 * d <= left.length - 1; d++) {
            left = tryDegree(table, left, d);
        }
        if (left.length > 1) {
            enter(table, 1, left.length - 1, left);
        }
    }

    /** What is left of f when all of degree d are taken out, none of a lower degree dividing it. */
    private long[] tryDegree(long[][][] table, long[] f, int d) {
        long[] left = f;
        long many = BigInteger.valueOf(p).pow(d).longValue();
        for (long code = 0; code < many && left.length > d; code++) {
            long[] candidate = coded(code, d);
            int e = 0;
            while (rest(left, candidate).length == 0) {
                left = quotient(left, candidate);
                e++;
            }
            if (e > 0) {
                enter(table, e, d, candidate);
            }
        }
        return left;
    }

    private long[] coded(long code, int d) {
        long[] row = new long[d + 1];
        row[d] = 1;
        long digits = code;
        for (int i = 0; i < d; i++) {
            row[i] = digits % p;
            digits /= p;
        }
        return row;
    }

    /** For f that none divides as often as P: parts by how often from f and its derivative, then by degree. */
    private void byDerivative(long[][][] table, long[] f) {
        long[] repeated = gcd(f, derivative(f));
        long[] once = quotient(f, repeated);
        for (int e = 1; once.length > 1; e++) {
            long[] still = gcd(once, repeated);
            byDegree(table, e, quotient(once, still));
            once = still;
            repeated = quotient(repeated, still);
        }
    }

    private void byDegree(long[][][] table, int e, long[] f) {
        long[] left = f;
        long[] power = X;
        for (int d = 1; left.length > 1; d++) {
            power = pow(power, BigInteger.valueOf(p), left);
            long[] found = gcd(plus(power, mul(X, number(-1))), left);
            if (found.length > 1) {
                enter(table, e, d, found);
                left = quotient(left, found);
            }
        }
    }
}
