/** Counts the answers that are not as due, prints them, and ends the test. */
final class Check {
    private int wrong;

    void due(String call, long got, long want) {
        if (got != want) {
            wrong++;
            System.out.println(call + " answered " + got + ", due is " + want);
        }
    }

    /** The coefficients of register r, from the lowest on, and its size. */
    void register(String when, PrimePolynomials x, int r, int... coefficients) {
        for (int i = 0; i < 16; i++) {
            long want = i < coefficients.length ? coefficients[i] : 0;
            due(when + ": coefficient(" + r + ", " + i + ")", x.coefficient(r, i), want);
        }
        due(when + ": size(" + r + ")", x.size(r), coefficients.length);
    }

    /** Part k: its e, its d, and the coefficients of its polynomial from the lowest on. */
    void part(String when, PrimePolynomials x, int k, int e, int d, int... coefficients) {
        due(when + ": part(" + k + ", 0)", x.part(k, 0), e);
        due(when + ": part(" + k + ", 1)", x.part(k, 1), d);
        due(when + ": part(" + k + ", 2)", x.part(k, 2), coefficients.length - 1);
        for (int i = 0; i < 16; i++) {
            long want = i < coefficients.length ? coefficients[i] : 0;
            due(when + ": part(" + k + ", " + (100 + i) + ")", x.part(k, 100 + i), want);
        }
    }

    /** An object modulo the prime p, register 0 and those behind it being filled from the rows. */
    static PrimePolynomials with(int p, int[]... rows) {
        PrimePolynomials x = new PrimePolynomials(p);
        for (int r = 0; r < rows.length; r++) {
            for (int i = 0; i < rows[r].length; i++) {
                x.set(r, i, rows[r][i]);
            }
        }
        return x;
    }

    static int[] row(int... coefficients) {
        return coefficients;
    }

    void end() {
        System.out.println(wrong == 0 ? "all answers are as due" : wrong + " answers are not as due");
        if (wrong != 0) {
            System.exit(1);
        }
    }
}
