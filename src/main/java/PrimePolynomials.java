import java.util.Arrays;

/**
 * Polynomials over the whole numbers modulo a prime, held in eight registers, with the parts of the
 * polynomial that was factored last and a field made by a prime polynomial.
 *
 * <p>All polynomials that any call needs are made by the constructor and used again: no call makes
 * an object.
 */
public final class PrimePolynomials {
    public static final int NONE = -1;
    public static final int FULL = -2;

    private static final int REGISTERS = 8;
    private static final int TOP_DEGREE = 15;
    /** The product of two polynomials of the top degree has room too. */
    private static final int ROOM = 2 * TOP_DEGREE + 1;

    private static final int PART_OFTEN = 0;
    private static final int PART_EACH = 1;
    private static final int PART_DEGREE = 2;
    private static final int PART_COEFFICIENTS = 100;

    private final Ring ring;
    private final Frobenius frobenius;
    private final Parts parts;
    private final Field field;
    private final Polynomial[] registers;

    public PrimePolynomials(int p) {
        ring = new Ring(greatestPrimeUpTo(p));
        frobenius = new Frobenius(ring);
        parts = new Parts(ring, frobenius);
        field = new Field(ring, frobenius);
        registers = new Polynomial[REGISTERS];
        for (int r = 0; r < REGISTERS; r++) {
            registers[r] = new Polynomial();
        }
    }

    public int prime() {
        return ring.p;
    }

    public int set(int r, int i, int c) {
        if (isNoRegister(r) || isNoIndex(i)) {
            return NONE;
        }
        registers[r].put(i, Math.floorMod(c, ring.p));
        return Math.max(registers[r].degree, 0);
    }

    public int coefficient(int r, int i) {
        if (isNoRegister(r) || isNoIndex(i)) {
            return NONE;
        }
        return registers[r].c[i];
    }

    public int size(int r) {
        return isNoRegister(r) ? NONE : sizeOf(r);
    }

    public int value(int r, int at) {
        if (isNoRegister(r)) {
            return NONE;
        }
        return ring.valueAt(registers[r], Math.floorMod(at, ring.p));
    }

    public int add(int d, int x, int y, int factor) {
        if (isNoRegister(d) || isNoRegister(x) || isNoRegister(y)) {
            return NONE;
        }
        ring.sumInto(registers[d], registers[x], registers[y], Math.floorMod(factor, ring.p));
        return sizeOf(d);
    }

    public int multiply(int d, int x, int y) {
        if (isNoRegister(d) || isNoRegister(x) || isNoRegister(y)) {
            return NONE;
        }
        // With a factor 0 the sum below says nothing, but is at most 14 then.
        if (registers[x].degree + registers[y].degree > TOP_DEGREE) {
            return FULL;
        }
        ring.productInto(registers[d], registers[x], registers[y]);
        return sizeOf(d);
    }

    public int divide(int q, int r, int x, int y) {
        if (isNoRegister(q) || isNoRegister(r) || isNoRegister(x) || isNoRegister(y)) {
            return NONE;
        }
        if (registers[y].isZero()) {
            return NONE;
        }
        ring.quotientAndRestInto(registers[q], registers[r], registers[x], registers[y]);
        return sizeOf(r);
    }

    public int common(int d, int x, int y) {
        if (isNoRegister(d) || isNoRegister(x) || isNoRegister(y)) {
            return NONE;
        }
        ring.commonInto(registers[d], registers[x], registers[y]);
        return sizeOf(d);
    }

    public int power(int d, int x, long e, int m) {
        if (isNoRegister(d) || isNoRegister(x) || isNoRegister(m)) {
            return NONE;
        }
        if (registers[m].isZero() || e < 0) {
            return NONE;
        }
        ring.powerInto(registers[d], registers[x], e, registers[m]);
        return sizeOf(d);
    }

    public int derive(int d, int x) {
        if (isNoRegister(d) || isNoRegister(x)) {
            return NONE;
        }
        ring.derivativeInto(registers[d], registers[x]);
        return sizeOf(d);
    }

    public int isPrime(int r) {
        if (isNoRegister(r)) {
            return NONE;
        }
        return frobenius.findsPrime(registers[r]) ? 1 : 0;
    }

    public int factor(int r) {
        if (isNoRegister(r) || registers[r].isZero()) {
            return NONE;
        }
        parts.makeFrom(registers[r]);
        return parts.count;
    }

    public int part(int k, int what) {
        if (isNoPart(k)) {
            return NONE;
        }
        Part part = parts.list[k];
        switch (what) {
            case PART_OFTEN:
                return part.often;
            case PART_EACH:
                return part.each;
            case PART_DEGREE:
                return part.polynomial.degree;
            default:
                break;
        }
        if (what < PART_COEFFICIENTS || what > PART_COEFFICIENTS + TOP_DEGREE) {
            return NONE;
        }
        return part.polynomial.c[what - PART_COEFFICIENTS];
    }

    public int split(int k, int r) {
        if (isNoPart(k) || isNoRegister(r) || parts.list[k].isComplete()) {
            return NONE;
        }
        return parts.splitAt(k, registers[r]) ? 1 : 0;
    }

    public int product(int d) {
        if (isNoRegister(d) || !parts.wereMade()) {
            return NONE;
        }
        parts.wholeInto(registers[d]);
        return sizeOf(d);
    }

    public int field(int r) {
        if (isNoRegister(r)) {
            return NONE;
        }
        Polynomial base = registers[r];
        if (!base.isMonic() || !frobenius.findsPrime(base)) {
            return NONE;
        }
        field.base.copyFrom(base);
        return base.degree;
    }

    public int times(int d, int x, int y) {
        if (isNoRegister(d) || isNoRegister(x) || isNoRegister(y) || !field.isMade()) {
            return NONE;
        }
        ring.productRestInto(registers[d], registers[x], registers[y], field.base);
        return sizeOf(d);
    }

    public int inverse(int d, int x) {
        if (isNoRegister(d) || isNoRegister(x) || !field.isMade()) {
            return NONE;
        }
        return field.inverseInto(registers[d], registers[x]) ? sizeOf(d) : NONE;
    }

    public int trace(int x, boolean which) {
        if (isNoRegister(x) || !field.isMade()) {
            return NONE;
        }
        return field.numberOf(registers[x], which);
    }

    private static boolean isNoRegister(int r) {
        return r < 0 || r >= REGISTERS;
    }

    private static boolean isNoIndex(int i) {
        return i < 0 || i > TOP_DEGREE;
    }

    private boolean isNoPart(int k) {
        return k < 0 || k >= parts.count;
    }

    private int sizeOf(int r) {
        return registers[r].degree + 1;
    }

    private static int greatestPrimeUpTo(int limit) {
        for (int n = limit; n > 2; n--) {
            if (isPrimeNumber(n)) {
                return n;
            }
        }
        return 2;
    }

    /** For n from 3 on. */
    private static boolean isPrimeNumber(int n) {
        if (n % 2 == 0) {
            return false;
        }
        // long, because the square passes the greatest int when n is near it
        for (long t = 3; t * t <= n; t += 2) {
            if (n % t == 0) {
                return false;
            }
        }
        return true;
    }

    /** Coefficients 0 .. P - 1 from the lowest on; those above the degree are always 0. */
    private static final class Polynomial {
        final int[] c = new int[ROOM];
        int degree = -1;

        boolean isZero() {
            return degree < 0;
        }

        boolean isMonic() {
            return lead() == 1;
        }

        /** The coefficient at the degree; 0 for 0. */
        int lead() {
            return degree < 0 ? 0 : c[degree];
        }

        void clear() {
            Arrays.fill(c, 0);
            degree = -1;
        }

        void put(int i, int number) {
            c[i] = number;
            settle();
        }

        /** Becomes number * x^i. */
        void becomeTerm(int number, int i) {
            clear();
            put(i, number);
        }

        void copyFrom(Polynomial other) {
            System.arraycopy(other.c, 0, c, 0, ROOM);
            degree = other.degree;
        }

        /** Finds the degree again after coefficients were written. */
        void settle() {
            int i = ROOM - 1;
            while (i >= 0 && c[i] == 0) {
                i--;
            }
            degree = i;
        }
    }

    /**
     * The arithmetic of polynomials. In each method the one that is written may be one of those that
     * are read: the work is done in polynomials of the ring's own.
     */
    private static final class Ring {
        final int p;
        private final Polynomial wide = new Polynomial();
        private final Polynomial left = new Polynomial();
        private final Polynomial over = new Polynomial();
        private final Polynomial first = new Polynomial();
        private final Polynomial second = new Polynomial();
        private final Polynomial modulus = new Polynomial();
        private final Polynomial square = new Polynomial();
        private final Polynomial result = new Polynomial();

        Ring(int p) {
            this.p = p;
        }

        /** The number by which a, not 0, makes 1: a^(P - 2). */
        int reciprocal(int a) {
            if (a == 1) {
                return 1;
            }
            long total = 1;
            long factor = a;
            for (int e = p - 2; e > 0; e >>= 1) {
                if ((e & 1) == 1) {
                    total = total * factor % p;
                }
                factor = factor * factor % p;
            }
            return (int) total;
        }

        int valueAt(Polynomial a, int at) {
            long total = 0;
            for (int i = a.degree; i >= 0; i--) {
                total = (total * at + a.c[i]) % p;
            }
            return (int) total;
        }

        /** to becomes a + b * factor. */
        void sumInto(Polynomial to, Polynomial a, Polynomial b, int factor) {
            for (int i = 0; i < ROOM; i++) {
                to.c[i] = (int) ((a.c[i] + (long) b.c[i] * factor) % p);
            }
            to.settle();
        }

        void scaleInto(Polynomial to, Polynomial a, int factor) {
            for (int i = 0; i < ROOM; i++) {
                to.c[i] = (int) ((long) a.c[i] * factor % p);
            }
            to.settle();
        }

        void makeMonic(Polynomial a) {
            if (!a.isZero() && !a.isMonic()) {
                scaleInto(a, a, reciprocal(a.lead()));
            }
        }

        void derivativeInto(Polynomial to, Polynomial a) {
            for (int i = 1; i < ROOM; i++) {
                to.c[i - 1] = (int) ((long) a.c[i] * i % p);
            }
            to.c[ROOM - 1] = 0;
            to.settle();
        }

        void productInto(Polynomial to, Polynomial a, Polynomial b) {
            multiplyWide(a, b);
            to.copyFrom(wide);
        }

        /** to becomes the rest of a * b by m, not 0. */
        void productRestInto(Polynomial to, Polynomial a, Polynomial b, Polynomial m) {
            multiplyWide(a, b);
            divideLong(wide, m);
            to.copyFrom(left);
        }

        /** First the quotient of a by b, not 0, is written, then the rest. */
        void quotientAndRestInto(Polynomial quotient, Polynomial rest, Polynomial a, Polynomial b) {
            divideLong(a, b);
            quotient.copyFrom(over);
            rest.copyFrom(left);
        }

        void quotientInto(Polynomial to, Polynomial a, Polynomial b) {
            divideLong(a, b);
            to.copyFrom(over);
        }

        void restInto(Polynomial to, Polynomial a, Polynomial b) {
            divideLong(a, b);
            to.copyFrom(left);
        }

        void commonInto(Polynomial to, Polynomial a, Polynomial b) {
            Polynomial high = first;
            Polynomial low = second;
            high.copyFrom(a);
            low.copyFrom(b);
            // The lower degree falls with each step, so ROOM + 1 steps are always enough.
            for (int step = 0; step <= ROOM && !low.isZero(); step++) {
                restInto(high, high, low);
                Polynomial swap = high;
                high = low;
                low = swap;
            }
            makeMonic(high);
            to.copyFrom(high);
        }

        /** to becomes the rest of a^e by m, not 0; e is at least 0. */
        void powerInto(Polynomial to, Polynomial a, long e, Polynomial m) {
            // The rest by a monic one is the same, and needs no reciprocal at each step.
            modulus.copyFrom(m);
            makeMonic(modulus);
            restInto(square, a, modulus);
            result.becomeTerm(1, 0);
            restInto(result, result, modulus);
            for (long bits = e; bits > 0; bits >>= 1) {
                if ((bits & 1) == 1) {
                    productRestInto(result, result, square, modulus);
                }
                if (bits > 1) {
                    productRestInto(square, square, square, modulus);
                }
            }
            to.copyFrom(result);
        }

        /** The degrees of a and b are together below ROOM. */
        private void multiplyWide(Polynomial a, Polynomial b) {
            wide.clear();
            for (int i = 0; i <= a.degree; i++) {
                long factor = a.c[i];
                for (int j = 0; j <= b.degree; j++) {
                    wide.c[i + j] = (int) ((wide.c[i + j] + factor * b.c[j]) % p);
                }
            }
            wide.settle();
        }

        /** Leaves the quotient of a by b, not 0, in over and the rest in left. */
        private void divideLong(Polynomial a, Polynomial b) {
            left.copyFrom(a);
            over.clear();
            int leadReciprocal = reciprocal(b.lead());
            for (int shift = a.degree - b.degree; shift >= 0; shift--) {
                long factor = (long) left.c[shift + b.degree] * leadReciprocal % p;
                over.c[shift] = (int) factor;
                long negative = p - factor;
                for (int j = 0; factor != 0 && j <= b.degree; j++) {
                    left.c[shift + j] = (int) ((left.c[shift + j] + negative * b.c[j]) % p);
                }
            }
            left.settle();
            over.settle();
        }
    }

    /**
     * The P-th powers modulo a polynomial. As (a + b)^P = a^P + b^P here, they are sums of the powers
     * x^(i * P): with a table of these a P-th power is no dearer than a product.
     */
    private static final class Frobenius {
        private final Ring ring;
        private final Polynomial modulus = new Polynomial();
        private final Polynomial variable = new Polynomial();
        private final Polynomial[] images = new Polynomial[TOP_DEGREE];
        private final Polynomial total = new Polynomial();
        private final Polynomial current = new Polynomial();
        private final Polynomial climbing = new Polynomial();
        private final Polynomial difference = new Polynomial();

        Frobenius(Ring ring) {
            this.ring = ring;
            variable.becomeTerm(1, 1);
            for (int i = 0; i < TOP_DEGREE; i++) {
                images[i] = new Polynomial();
            }
        }

        /** Makes the table for m, of degree 1 or more, and starts again at degree 1. */
        void prepareFor(Polynomial m) {
            modulus.copyFrom(m);
            ring.makeMonic(modulus);
            images[0].becomeTerm(1, 0);
            ring.powerInto(current, variable, ring.p, modulus);
            for (int i = 1; i < modulus.degree; i++) {
                ring.productRestInto(images[i], images[i - 1], current, modulus);
            }
            ring.restInto(climbing, variable, modulus);
        }

        /**
         * to becomes the product of the prime polynomials that divide f, a divisor of the modulus, and
         * whose degree divides d: d is 1 at the first call after prepareFor, and rises by 1 with each.
         */
        void nextDegreeInto(Polynomial to, Polynomial f) {
            raise(climbing);
            ring.sumInto(difference, climbing, variable, ring.p - 1);
            ring.commonInto(to, difference, f);
        }

        boolean findsPrime(Polynomial f) {
            if (f.degree < 1) {
                return false;
            }
            prepareFor(f);
            // If any divides f, then a prime one of at most half its degree does.
            for (int d = 1; 2 * d <= f.degree; d++) {
                nextDegreeInto(current, f);
                if (current.degree > 0) {
                    return false;
                }
            }
            return true;
        }

        /** to becomes the sum or the product of a, a^P, a^(P^2), .., count of them, by the modulus. */
        void gatherInto(Polynomial to, Polynomial a, int count, boolean multiplied) {
            ring.restInto(current, a, modulus);
            to.copyFrom(current);
            for (int i = 1; i < count; i++) {
                raise(current);
                if (multiplied) {
                    ring.productRestInto(to, to, current, modulus);
                } else {
                    ring.sumInto(to, to, current, 1);
                }
            }
        }

        /** a, of a degree below that of the modulus, becomes a^P. */
        private void raise(Polynomial a) {
            total.clear();
            for (int i = 0; i <= a.degree; i++) {
                if (a.c[i] != 0) {
                    ring.sumInto(total, total, images[i], a.c[i]);
                }
            }
            a.copyFrom(total);
        }
    }

    /** The product of the prime polynomials of degree each that divide just so often. */
    private static final class Part {
        final Polynomial polynomial = new Polynomial();
        int often;
        int each;

        boolean isComplete() {
            return polynomial.degree == each;
        }
    }

    /** The parts of what was factored last. */
    private static final class Parts {
        private final Ring ring;
        private final Frobenius frobenius;
        /** Each part has a degree of 1 or more: there are never more parts than the top degree. */
        final Part[] list = new Part[TOP_DEGREE];
        int count;
        /** Of what was factored; 0 before anything was. */
        private int lead;
        private final Polynomial rest = new Polynomial();
        private final Polynomial found = new Polynomial();
        private final Polynomial again = new Polynomial();
        private final Polynomial exact = new Polynomial();

        Parts(Ring ring, Frobenius frobenius) {
            this.ring = ring;
            this.frobenius = frobenius;
            for (int k = 0; k < TOP_DEGREE; k++) {
                list[k] = new Part();
            }
        }

        boolean wereMade() {
            return lead != 0;
        }

        /** f is not 0. */
        void makeFrom(Polynomial f) {
            count = 0;
            lead = f.lead();
            rest.copyFrom(f);
            ring.makeMonic(rest);
            if (rest.degree > 1) {
                frobenius.prepareFor(rest);
            }
            for (int d = 1; 2 * d <= rest.degree; d++) {
                // Those of lower degree are all taken out of the rest by now.
                frobenius.nextDegreeInto(found, rest);
                takeOutFound(d);
            }
            if (rest.degree > 0) {
                // It has no room for two that are not taken out yet.
                insertInOrder(1, rest.degree, rest);
            }
        }

        /** Takes all prime polynomials in found, of degree d, out of the rest, as often as they divide it. */
        private void takeOutFound(int d) {
            for (int e = 1; e <= TOP_DEGREE && found.degree > 0; e++) {
                ring.quotientInto(rest, rest, found);
                ring.commonInto(again, found, rest);
                ring.quotientInto(exact, found, again);
                if (exact.degree > 0) {
                    insertInOrder(e, d, exact);
                }
                found.copyFrom(again);
            }
        }

        /** Parts come here by rising degree: only how often they divide is to be looked at. */
        private void insertInOrder(int often, int each, Polynomial polynomial) {
            int at = 0;
            while (at < count && list[at].often <= often) {
                at++;
            }
            insert(at, often, each, polynomial);
        }

        private void insert(int at, int often, int each, Polynomial polynomial) {
            if (count >= list.length) {
                return;
            }
            Part fresh = list[count];
            for (int k = count; k > at; k--) {
                list[k] = list[k - 1];
            }
            list[at] = fresh;
            fresh.often = often;
            fresh.each = each;
            fresh.polynomial.copyFrom(polynomial);
            count++;
        }

        /** Whether part k, which is not complete, becomes two by a. */
        boolean splitAt(int k, Polynomial a) {
            Part part = list[k];
            Polynomial whole = part.polynomial;
            frobenius.prepareFor(whole);
            separatorInto(found, a, part);
            ring.commonInto(found, found, whole);
            if (found.degree < 1 || found.degree >= whole.degree) {
                return false;
            }
            ring.quotientInto(exact, whole, found);
            whole.copyFrom(found);
            insert(k + 1, part.often, part.each, exact);
            return true;
        }

        /** to becomes what the document calls u. */
        private void separatorInto(Polynomial to, Polynomial a, Part part) {
            if (ring.p == 2) {
                frobenius.gatherInto(to, a, part.each, false);
                return;
            }
            // (P^d - 1) / 2 is too long a number, but it is (1 + P + .. + P^(d - 1)) * ((P - 1) / 2).
            frobenius.gatherInto(to, a, part.each, true);
            ring.powerInto(to, to, (ring.p - 1) / 2, part.polynomial);
            to.put(0, Math.floorMod(to.c[0] - 1, ring.p));
        }

        /** to becomes what was factored last, put together again. */
        void wholeInto(Polynomial to) {
            to.becomeTerm(lead, 0);
            for (int k = 0; k < count; k++) {
                for (int e = 0; e < list[k].often; e++) {
                    ring.productInto(to, to, list[k].polynomial);
                }
            }
        }
    }

    /** The field of the rests by a prime polynomial. */
    private static final class Field {
        private final Ring ring;
        private final Frobenius frobenius;
        /** 0 while there is no field. */
        final Polynomial base = new Polynomial();
        private final Polynomial quotient = new Polynomial();
        private final Polynomial change = new Polynomial();
        private final Polynomial first = new Polynomial();
        private final Polynomial second = new Polynomial();
        private final Polynomial firstFactor = new Polynomial();
        private final Polynomial secondFactor = new Polynomial();

        Field(Ring ring, Frobenius frobenius) {
            this.ring = ring;
            this.frobenius = frobenius;
        }

        boolean isMade() {
            return !base.isZero();
        }

        /** Whether there is an inverse: if there is none, to stays. */
        boolean inverseInto(Polynomial to, Polynomial a) {
            Polynomial high = first;
            Polynomial low = second;
            Polynomial highFactor = firstFactor;
            Polynomial lowFactor = secondFactor;
            high.copyFrom(base);
            ring.restInto(low, a, base);
            if (low.isZero()) {
                return false;
            }
            highFactor.clear();
            lowFactor.becomeTerm(1, 0);
            // Always high = highFactor * a and low = lowFactor * a in the field, until low is a number.
            for (int step = 0; step <= TOP_DEGREE && low.degree > 0; step++) {
                ring.quotientAndRestInto(quotient, high, high, low);
                ring.productInto(change, quotient, lowFactor);
                ring.sumInto(highFactor, highFactor, change, ring.p - 1);
                Polynomial swap = high;
                high = low;
                low = swap;
                swap = highFactor;
                highFactor = lowFactor;
                lowFactor = swap;
            }
            ring.scaleInto(to, lowFactor, ring.reciprocal(low.lead()));
            return true;
        }

        /** The sum or the product of a, a^P, a^(P^2), .., which is a number. */
        int numberOf(Polynomial a, boolean multiplied) {
            frobenius.prepareFor(base);
            frobenius.gatherInto(change, a, base.degree, multiplied);
            return change.c[0];
        }
    }
}
