import java.util.function.ToIntFunction;

/**
 * Objects modulo 7 in which everything is there that a refused call could change: no two registers are
 * the same, and neither what was factored nor what made the field is in a register any more.
 */
final class Scene {
    static final int[] NO_REGISTER = {-1, 8, Integer.MIN_VALUE, Integer.MAX_VALUE};

    /** Another prime and monic polynomial than the one of the field. */
    static final int OTHER_PRIME = 0;
    static final int ELEMENT = 1;
    /** It is prime, and in the field it is 0. */
    static final int NOT_MONIC = 2;
    static final int NOT_PRIME = 3;
    static final int NUMBER = 4;
    static final int DEGREE_8 = 5;
    static final int DEGREE_15 = 6;
    static final int ZERO = 7;

    /** Of the two parts. */
    static final int NOT_COMPLETE = 0;
    static final int COMPLETE = 1;

    private static final int[][] REGISTERS = {
        {2, 0, 1}, {2, 3}, {3, 0, 3}, {6, 0, 1}, {5}, {0, 1, 0, 0, 0, 0, 0, 0, 2},
        {1, 0, 0, 0, 0, 0, 0, 2, 0, 0, 0, 0, 0, 0, 0, 3}, {}};
    /** 3 (x - 1)(x - 2)(x - 3)(x^2 + 1)^2 */
    private static final int[] FACTORED = {3, 5, 2, 6, 2, 4, 3, 3};
    private static final int[] FIELD = {1, 0, 1};

    private final Check check;

    Scene(Check check) {
        this.check = check;
    }

    /** With parts and a field. */
    static PrimePolynomials full() {
        PrimePolynomials x = bare();
        put(x, ZERO, FACTORED);
        x.factor(ZERO);
        wipe(x, ZERO, FACTORED.length);
        put(x, ZERO, FIELD);
        x.field(ZERO);
        wipe(x, ZERO, FIELD.length);
        return x;
    }

    /** With the registers alone. */
    static PrimePolynomials bare() {
        return Check.with(7, REGISTERS);
    }

    private static void put(PrimePolynomials x, int r, int[] row) {
        for (int i = 0; i < row.length; i++) {
            x.set(r, i, row[i]);
        }
    }

    private static void wipe(PrimePolynomials x, int r, int length) {
        for (int i = 0; i < length; i++) {
            x.set(r, i, 0);
        }
    }

    /** The call answers NONE, and nothing is changed by it. */
    void none(String call, ToIntFunction<PrimePolynomials> action) {
        refused(call, action, PrimePolynomials.NONE);
    }

    /** The call answers FULL, and nothing is changed by it. */
    void full(String call, ToIntFunction<PrimePolynomials> action) {
        refused(call, action, PrimePolynomials.FULL);
    }

    private void refused(String call, ToIntFunction<PrimePolynomials> action, int due) {
        PrimePolynomials x = full();
        check.due(call, action.applyAsInt(x), due);
        unchanged("after " + call, x);
    }

    /** The call answers NONE where there are no parts and there is no field, and there are none then. */
    void noneWithout(String call, ToIntFunction<PrimePolynomials> action) {
        PrimePolynomials x = bare();
        check.due(call, action.applyAsInt(x), PrimePolynomials.NONE);
        registers("after " + call, x);
        nothingMade("after " + call, x);
    }

    /** Everything is as full() has made it. This is the last look at the object: register 7 is used by it. */
    void unchanged(String when, PrimePolynomials x) {
        registers(when, x);
        parts(when, x);
        field(when, x);
    }

    void registers(String when, PrimePolynomials x) {
        check.due(when + ": prime()", x.prime(), 7);
        for (int r = 0; r < REGISTERS.length; r++) {
            check.register(when, x, r, REGISTERS[r]);
        }
    }

    /** Register 7 is used by it. */
    void parts(String when, PrimePolynomials x) {
        check.part(when, x, NOT_COMPLETE, 1, 1, 1, 4, 1, 1);
        check.part(when, x, COMPLETE, 2, 2, 1, 0, 1);
        check.due(when + ": part(2, 0)", x.part(2, 0), PrimePolynomials.NONE);
        check.due(when + ": product(7)", x.product(ZERO), FACTORED.length);
        check.register(when + ", product(7)", x, ZERO, FACTORED);
    }

    /** Register 7 is used by it. */
    void field(String when, PrimePolynomials x) {
        check.due(when + ": times(7, 1, 1)", x.times(ZERO, ELEMENT, ELEMENT), 2);
        check.register(when + ", (3x + 2)^2 where x^2 is -1", x, ZERO, 2, 5);
    }

    void nothingMade(String when, PrimePolynomials x) {
        check.due(when + ": part(0, 0)", x.part(0, 0), PrimePolynomials.NONE);
        check.due(when + ": product(7)", x.product(ZERO), PrimePolynomials.NONE);
        check.due(when + ": times(7, 1, 1)", x.times(ZERO, ELEMENT, ELEMENT), PrimePolynomials.NONE);
    }
}
