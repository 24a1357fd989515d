/** The boundary cases of promises 24 to 27: power, series, divide, evaluate. */
public final class PrimeEdgesTest extends EdgeNames {
    public static void main(String[] args) {
        Edges e = new Edges();
        list(e);
        e.run("PrimeEdgesTest");
    }

    static void list(Edges e) {
        power(e);
        powerRefused(e);
        series(e);
        seriesRefused(e);
        divideQuotient(e);
        divideRest(e);
        divideRefused(e);
        evaluate(e);
        evaluateRefused(e);
    }

    private static void power(Edges e) {
        e.promise(24);
        e.words("THE RESIDUES: entries 0 .. n - 1 of a ROW to the k as a product (k = 0: 1, then 0s): n.");
        for (int q = 0; q < 3; q++) {
            int prime = q;
            long p = Rows.PRIMES[q];
            powered(e, "k is 0, n is 1", prime, 0, 1, new long[] {7, 8}, 1);
            powered(e, "k is 0, n is 3", prime, 0, 3, new long[] {7, 8}, 1, 0, 0);
            powered(e, "k is 0, of 0s", prime, 0, 3, new long[] {0, 0}, 1, 0, 0);
            powered(e, "k is 0, of the PRIME", prime, 0, 2, new long[] {p}, 1, 0);
            powered(e, "k is 1, of 0s", prime, 1, 3, new long[] {0, 0}, 0, 0, 0);
            powered(e, "k is 1: RESIDUES", prime, 1, 4, new long[] {-1, p, -p - 1, p + 1}, p - 1, 0, p - 1, 1);
            powered(e, "k is 1, n is less than there are", prime, 1, 2, new long[] {5, 6, 7}, 5, 6);
            powered(e, "k is 1, n is more than there are", prime, 1, 4, new long[] {5, 6}, 5, 6, 0, 0);
            powered(e, "k is 2", prime, 2, 4, new long[] {1, -1}, 1, p - 2, 1, 0);
            powered(e, "k is 2, cut off", prime, 2, 2, new long[] {1, 1, 1}, 1, 2);
            powered(e, "k is 1000, an even power of -1", prime, 1000, 2, new long[] {-1}, 1, 0);
            powered(e, "k is 999, an odd power of -1", prime, 999, 2, new long[] {-1}, p - 1, 0);
            powered(e, "k is 1000, n is 3", prime, 1000, 3, new long[] {1, 1}, 1, 1000, 499500 % p);
            powered(e, "k is 1000, of 0s", prime, 1000, 2, new long[] {0, 0}, 0, 0);
            powered(e, "k is 63, X to it is the last of 64", prime, 63, 64, new long[] {0, 1}, only(64, 63, 1));
            powered(e, "k is 64, X to it is behind the last of 64", prime, 64, 64, new long[] {0, 1}, all(64, 0));
            powered(e, "k is 1, 64 of 64", prime, 1, 64, rising(64, 1), rising(64, 1));
            powered(e, "k is 1, n is 1 of 64", prime, 1, 1, rising(64, 1), 1);
        }
        for (int lane = 0; lane < 4; lane++) {
            int of = lane;
            e.edge("LANE " + lane, x -> {
                fill(x, 0, of, -1, 1);
                due("power", x.power(0, 0, 2, 3), 3);
                Rows.dueResidues("power", x, 1, P0 - 2, 1);
            });
        }
        e.edge("THE RESTS stay", x -> {
            ConvolutionBench y = Table.laid();
            due("power", y.power(0, 0, 2, 9), 9);
            due("told(3)", y.told(3), 9);
            due("told(4)", y.told(4), 2);
        });
    }

    private static void powered(Edges e, String what, int prime, int k, int n, long[] row, long... want) {
        e.edge(what + ", PRIME " + prime, x -> {
            fill(x, 11, LONGS, row);
            due("power", x.power(11, prime, k, n), n);
            due("fault()", x.fault(), 0);
            Rows.dueResidues("power", x, want);
        });
    }

    private static void powerRefused(Edges e) {
        e.words("UNKNOWN");
        for (int p : NO_PLACES) {
            e.refused("place " + p, UNKNOWN, x -> x.power(p, 0, 1, 1));
            e.refused("place " + p + ", ahead of OUTSIDE", UNKNOWN, x -> x.power(p, 0, -1, 0));
        }
        for (int prime : NO_PRIMES) {
            e.refused("PRIME " + prime, UNKNOWN, x -> x.power(0, prime, 1, 1));
            e.refused("PRIME " + prime + ", ahead of OUTSIDE", UNKNOWN, x -> x.power(0, prime, 1001, 65));
            e.refused("PRIME " + prime + ", ahead of NULL", UNKNOWN, x -> x.power(NOTHING, prime, 1, 1));
        }
        e.words("OUTSIDE: k is not 0 .. 1000");
        for (int k : new int[] {-1, 1001, MIN, MAX}) {
            e.refused("k is " + k, OUTSIDE, x -> x.power(0, 0, k, 1));
            e.refused("k is " + k + ", ahead of NULL", OUTSIDE, x -> x.power(NOTHING, 0, k, 1));
            e.refused("k is " + k + ", ahead of CAST", OUTSIDE, x -> x.power(4, 0, k, 1));
        }
        e.words("n is not 1 .. 64");
        for (int n : NO_COUNTS) {
            e.refused("n is " + n, OUTSIDE, x -> x.power(0, 0, 1, n));
            e.refused("n is " + n + ", k is 0", OUTSIDE, x -> x.power(0, 0, 0, n));
            e.refused("n is " + n + ", ahead of NULL", OUTSIDE, x -> x.power(NOTHING, 0, 1, n));
        }
        e.words("NULL");
        e.faulted("a place with nothing", NULL, x -> x.power(NOTHING, 0, 1, 1));
        e.faulted("a place with nothing, k is 0", NULL, x -> x.power(NOTHING, 0, 0, 1));
        e.words("CAST: DOUBLES.");
        e.faulted("k is 1", CAST, x -> x.power(4, 0, 1, 1));
        e.faulted("k is 0", CAST, x -> x.power(4, 0, 0, 1));
    }

    private static void series(Edges e) {
        e.promise(25);
        e.words("THE RESIDUES: entries 0 .. n - 1 of the series that, times the ROW's, is 1, then 0s: n.");
        for (int q = 0; q < 3; q++) {
            int prime = q;
            long p = Rows.PRIMES[q];
            inverted(e, "of 1, n is 1", prime, 1, new long[] {1}, 1);
            inverted(e, "of 1, n is 3", prime, 3, new long[] {1}, 1, 0, 0);
            inverted(e, "of -1", prime, 2, new long[] {-1}, p - 1, 0);
            inverted(e, "of 2", prime, 1, new long[] {2}, (p + 1) / 2);
            inverted(e, "of the PRIME and 1", prime, 1, new long[] {p + 1}, 1);
            inverted(e, "of 1 - X", prime, 4, new long[] {1, -1}, 1, 1, 1, 1);
            inverted(e, "of 1 + X", prime, 4, new long[] {1, 1}, 1, p - 1, 1, p - 1);
            inverted(e, "n is less than there are", prime, 2, new long[] {1, -1, 99, 98}, 1, 1);
            inverted(e, "of 1 - X, n is 64", prime, 64, new long[] {1, -1}, all(64, 1));
            inverted(e, "of 64 ENTRIES 1, n is 64", prime, 64, all(64, 1), oneLessX(p));
            inverted(e, "an ENTRY behind the first is the PRIME", prime, 3, new long[] {1, p, -p}, 1, 0, 0);
        }
        for (int lane = 0; lane < 4; lane++) {
            int of = lane;
            e.edge("LANE " + lane, x -> {
                fill(x, 0, of, -1);
                due("series", x.series(0, 1, 1), 1);
                Rows.dueResidues("series", x, P1 - 1);
            });
        }
    }

    private static long[] oneLessX(long p) {
        long[] row = only(64, 0, 1);
        row[1] = p - 1;
        return row;
    }

    private static void inverted(Edges e, String what, int prime, int n, long[] row, long... want) {
        e.edge(what + ", PRIME " + prime, x -> {
            fill(x, 11, LONGS, row);
            due("series", x.series(11, prime, n), n);
            due("fault()", x.fault(), 0);
            Rows.dueResidues("series", x, want);
        });
    }

    private static void seriesRefused(Edges e) {
        e.words("UNKNOWN");
        for (int p : NO_PLACES) {
            e.refused("place " + p, UNKNOWN, x -> x.series(p, 0, 1));
            e.refused("place " + p + ", ahead of OUTSIDE", UNKNOWN, x -> x.series(p, 0, 0));
        }
        for (int prime : NO_PRIMES) {
            e.refused("PRIME " + prime, UNKNOWN, x -> x.series(0, prime, 1));
            e.refused("PRIME " + prime + ", ahead of OUTSIDE", UNKNOWN, x -> x.series(0, prime, 65));
        }
        e.words("OUTSIDE: n is not 1 .. 64");
        for (int n : NO_COUNTS) {
            e.refused("n is " + n, OUTSIDE, x -> x.series(0, 0, n));
            e.refused("n is " + n + ", ahead of NULL", OUTSIDE, x -> x.series(NOTHING, 0, n));
            e.refused("n is " + n + ", ahead of CAST", OUTSIDE, x -> x.series(4, 0, n));
            e.refusedBehind("n is " + n + ", ahead of ZERO", x -> fill(x, 6, BYTES, 0), OUTSIDE, x -> x.series(6, 0, n));
        }
        e.words("NULL");
        e.faulted("a place with nothing", NULL, x -> x.series(NOTHING, 0, 1));
        e.words("CAST: DOUBLES");
        e.faulted("DOUBLES", CAST, x -> x.series(4, 0, 1));
        e.faultedBehind("DOUBLES that are 0, ahead of ZERO", x -> fill(x, 4, DOUBLES, 0), CAST, x -> x.series(4, 0, 1));
        e.words("ZERO: ENTRY 0 is 0 over the PRIME.");
        for (int q = 0; q < 3; q++) {
            int prime = q;
            long p = Rows.PRIMES[q];
            for (long factor : new long[] {0, 1, -1, 2, 9000000000L, -9000000000L}) {
                e.faultedBehind(factor + " times PRIME " + prime, x -> fill(x, 6, LONGS, factor * p, 1), ZERO,
                    x -> x.series(6, prime, 64));
            }
            e.edge("PRIME " + prime + " is not 0 over another one", x -> {
                fill(x, 0, LONGS, p, 1);
                due("series", x.series(0, (prime + 1) % 3, 2), 2);
                due("series", x.series(0, (prime + 2) % 3, 2), 2);
            });
        }
        e.edge("another ENTRY may be 0", x -> {
            fill(x, 0, BYTES, 1, 0, 0);
            due("series", x.series(0, 0, 2), 2);
            Rows.dueResidues("series", x, 1, 0);
        });
    }

    private static void divided(Edges e, String what, int prime, long[] a, long[] b, long[] quotient, long... rest) {
        e.edge(what + ", PRIME " + prime, x -> {
            fill(x, 0, LONGS, a);
            fill(x, 11, LONGS, b);
            due("divide", x.divide(0, 11, prime), quotient.length);
            due("fault()", x.fault(), 0);
            Rows.dueResidues("quotient", x, quotient);
            Rows.dueRests("rest", x, rest);
        });
    }

    private static long[] row(long... entries) {
        return entries;
    }

    private static void divideQuotient(Edges e) {
        e.promise(26);
        for (int q = 0; q < 3; q++) {
            int prime = q;
            long p = Rows.PRIMES[q];
            e.words("ROWS as polynomials (ENTRY k of degree k), a by b: THE RESIDUES are the quotient (as many as a has ENTRIES"
                + " more than b's degree, but none if that is not above 0)");
            divided(e, "1 by 1 ENTRY", prime, row(6), row(3), row(2));
            divided(e, "3 by degree 0", prime, row(2, 4, -6), row(-2), row(p - 1, p - 2, 3));
            divided(e, "5 by degree 1", prime, row(1, 0, -1, 0, 2), row(1, 1), row(p - 1, 1, p - 2, 2), 2);
            divided(e, "as many as the degree and 1", prime, row(5, 6, 7), row(1, 0, 7), row(1), 4, 6);
            divided(e, "as many as the degree", prime, row(5, 6), row(1, 0, 7), row(), 5, 6);
            divided(e, "one fewer than the degree", prime, row(5), row(1, 0, 7), row(), 5, 0);
            divided(e, "0s by degree 1", prime, row(0, 0, 0), row(1, 1), row(0, 0), 0);
            divided(e, "a ROW by itself", prime, row(0, 5, 9), row(0, 5, 9), row(1), 0, 0);
            divided(e, "a's last ENTRIES are 0: they count", prime, row(3, 0, 0), row(1, 1), row(0, 0), 3);
            divided(e, "64 by degree 0", prime, all(64, 4), row(2), all(64, 2));
            divided(e, "64 by degree 63", prime, all(64, 3), only(64, 63, 3), row(1), all(63, 3));
            divided(e, "1 by degree 63", prime, row(3), only(64, 63, 3), row(), only(63, 0, 3));
            e.words("(b's degree is that of its last ENTRY that is not 0 over the PRIME");
            divided(e, "b ends with a 0", prime, row(1, 2, 1), row(1, 1, 0), row(1, 1), 0);
            divided(e, "b ends with the PRIME", prime, row(1, 2, 1), row(1, 1, p), row(1, 1), 0);
            divided(e, "b ends with less than 0, 0 over the PRIME", prime, row(1, 2, 1), row(1, 1, -p, 7 * p), row(1, 1), 0);
            divided(e, "b is but its ENTRY 0", prime, row(7, 7), row(7, 0, 0, 0), row(1, 1));
            divided(e, "63 0s behind b's ENTRY 0", prime, row(7, 7), only(64, 0, 7), row(1, 1));
        }
    }

    private static void divideRest(Edges e) {
        for (int q = 0; q < 3; q++) {
            int prime = q;
            long p = Rows.PRIMES[q];
            e.words("THE RESTS the rest (as many as b's degree): how many RESIDUES.");
            divided(e, "degree 0: none", prime, row(1, 2), row(1), row(1, 2));
            divided(e, "degree 1: one", prime, row(-1, 0), row(-1, 1), row(0), p - 1);
            divided(e, "degree 2: two", prime, row(1, 1, 1, 1), row(0, 0, 1), row(1, 1), 1, 1);
            divided(e, "a rest that is 0 is told all the same", prime, row(0, 0, 1), row(0, 0, 1), row(1), 0, 0);
            e.words("where a has no more ENTRIES than that, THE RESTS are a's, with 0s behind.)");
            divided(e, "as many: no 0 behind", prime, row(-5, p), row(0, 0, 1), row(), p - 5, 0);
            divided(e, "one fewer: one 0 behind", prime, row(-5), row(0, 0, 1), row(), p - 5, 0);
            divided(e, "two fewer: two 0s behind", prime, row(9), row(0, 0, 0, 1), row(), 9, 0, 0);
            e.edge("0s, where longer RESTS were before, PRIME " + prime, x -> {
                fill(x, 0, BYTES, all(5, 9));
                fill(x, 1, BYTES, 0, 0, 0, 0, 1);
                fill(x, 2, BYTES, 3);
                due("divide", x.divide(0, 1, prime), 1);
                Rows.dueRests("longer", x, 9, 9, 9, 9);
                due("divide", x.divide(2, 1, prime), 0);
                Rows.dueRests("a's", x, 3, 0, 0, 0);
                Rows.dueResidues("none", x);
            });
        }
        e.edge("a and b stay as they are", x -> {
            fill(x, 0, BYTES, 1, -2, 3);
            fill(x, 1, BYTES, -1, 1);
            due("divide", x.divide(0, 1, 0), 2);
            Rows.dueRow("a", x, 0, 1, -2, 3);
            Rows.dueRow("b", x, 1, -1, 1);
        });
    }

    private static void divideRefused(Edges e) {
        e.words("UNKNOWN");
        for (int p : NO_PLACES) {
            e.refused("a is " + p, UNKNOWN, x -> x.divide(p, NOTHING, 0));
            e.refused("b is " + p, UNKNOWN, x -> x.divide(NOTHING, p, 0));
        }
        for (int prime : NO_PRIMES) {
            e.refused("PRIME " + prime, UNKNOWN, x -> x.divide(0, 1, prime));
            e.refused("PRIME " + prime + ", ahead of NULL", UNKNOWN, x -> x.divide(NOTHING, NOTHING, prime));
        }
        e.words("NULL");
        e.faulted("a has nothing", NULL, x -> x.divide(NOTHING, 1, 0));
        e.faulted("b has nothing", NULL, x -> x.divide(1, NOTHING, 0));
        e.faulted("b has nothing, ahead of a's CAST", NULL, x -> x.divide(4, NOTHING, 0));
        e.faultedBehind("a has nothing, ahead of ZERO", x -> fill(x, 6, BYTES, 0), NULL, x -> x.divide(NOTHING, 6, 0));
        e.words("CAST: DOUBLES (a, then b)");
        e.faulted("a", CAST, x -> x.divide(4, 0, 0));
        e.faulted("b", CAST, x -> x.divide(0, 4, 0));
        e.faulted("both", CAST, x -> x.divide(4, 4, 0));
        e.faultedBehind("a, ahead of ZERO", x -> fill(x, 6, BYTES, 0), CAST, x -> x.divide(4, 6, 0));
        e.faultedBehind("b, and its BITS are 0", x -> fill(x, 4, DOUBLES, 0), CAST, x -> x.divide(0, 4, 0));
        e.words("ZERO: all of b is 0 over the PRIME.");
        for (int q = 0; q < 3; q++) {
            int prime = q;
            long p = Rows.PRIMES[q];
            e.faultedBehind("one 0, PRIME " + q, x -> fill(x, 6, BYTES, 0), ZERO, x -> x.divide(0, 6, prime));
            e.faultedBehind("64 0s, PRIME " + q, x -> x.row(6, LONGS, 64), ZERO, x -> x.divide(0, 6, prime));
            e.faultedBehind("multiples of PRIME " + q, x -> fill(x, 6, LONGS, p, 0, -p, 5 * p), ZERO, x -> x.divide(0, 6, prime));
            e.faultedBehind("0 by 0, PRIME " + q, x -> fill(x, 6, BYTES, 0), ZERO, x -> x.divide(6, 6, prime));
            e.edge("the PRIME " + q + " is not 0 over another one", x -> {
                fill(x, 0, LONGS, p);
                due("divide", x.divide(0, 0, (prime + 1) % 3), 1);
                Rows.dueResidues("quotient", x, 1);
            });
        }
        e.edge("a may be 0", x -> {
            fill(x, 0, BYTES, 0);
            fill(x, 1, BYTES, 5);
            due("divide", x.divide(0, 1, 0), 1);
            Rows.dueResidues("quotient", x, 0);
            Rows.dueRests("rest", x);
        });
    }

    private static void evaluated(Edges e, String what, int prime, long[] a, long[] points, long... want) {
        e.edge(what + ", PRIME " + prime, x -> {
            fill(x, 0, LONGS, a);
            fill(x, 11, LONGS, points);
            due("evaluate", x.evaluate(0, 11, prime), want.length);
            due("fault()", x.fault(), 0);
            Rows.dueResidues("values", x, want);
        });
    }

    private static void evaluate(Edges e) {
        e.promise(27);
        e.words("THE RESIDUES: the values of a polynomial at the ENTRIES of a ROW of points: how many.");
        for (int q = 0; q < 3; q++) {
            int prime = q;
            long p = Rows.PRIMES[q];
            evaluated(e, "one ENTRY: the same everywhere", prime, row(-5), row(0, 1, -9), p - 5, p - 5, p - 5);
            evaluated(e, "one point", prime, row(1, 2, 3), row(10), 321);
            evaluated(e, "at 0, also to the 0", prime, row(7, 8, 9), row(0), 7);
            evaluated(e, "at the PRIME, as at 0", prime, row(7, 8, 9), row(p, -p), 7, 7);
            evaluated(e, "at -1", prime, row(1, 2, 3), row(-1), 2);
            evaluated(e, "points that are alike", prime, row(0, 1), row(4, 4, 4 + p), 4, 4, 4);
            evaluated(e, "of 0s", prime, row(0, 0), row(3, 4), 0, 0);
            evaluated(e, "64 points, X itself", prime, row(0, 1), rising(64, 1), rising(64, 1));
            evaluated(e, "64 ENTRIES at 1 and -1", prime, all(64, 1), row(1, -1), 64, 0);
            evaluated(e, "the least LONG at 1", prime, row(0, Long.MIN_VALUE), row(1), Math.floorMod(Long.MIN_VALUE, p));
            evaluated(e, "at the least LONG", prime, row(0, 1), row(Long.MIN_VALUE), Math.floorMod(Long.MIN_VALUE, p));
            evaluated(e, "ENTRIES above the PRIME", prime, row(p + 1, p + 2), row(p + 3), 7);
        }
        for (int lane = 0; lane < 4; lane++) {
            int of = lane;
            e.edge("both of LANE " + lane, x -> {
                fill(x, 0, of, 1, -1);
                due("evaluate", x.evaluate(0, 0, 0), 2);
                Rows.dueResidues("values", x, 0, 2);
            });
        }
    }

    private static void evaluateRefused(Edges e) {
        e.words("UNKNOWN");
        for (int p : NO_PLACES) {
            e.refused("a is " + p, UNKNOWN, x -> x.evaluate(p, NOTHING, 0));
            e.refused("points is " + p, UNKNOWN, x -> x.evaluate(NOTHING, p, 0));
        }
        for (int prime : NO_PRIMES) {
            e.refused("PRIME " + prime, UNKNOWN, x -> x.evaluate(0, 1, prime));
            e.refused("PRIME " + prime + ", ahead of NULL", UNKNOWN, x -> x.evaluate(NOTHING, NOTHING, prime));
        }
        e.words("NULL");
        e.faulted("a has nothing", NULL, x -> x.evaluate(NOTHING, 0, 0));
        e.faulted("points has nothing", NULL, x -> x.evaluate(0, NOTHING, 0));
        e.faulted("points has nothing, ahead of a's CAST", NULL, x -> x.evaluate(4, NOTHING, 0));
        e.faulted("a has nothing, ahead of the points' CAST", NULL, x -> x.evaluate(NOTHING, 4, 0));
        e.words("CAST: DOUBLES (a, then points).");
        e.faulted("a", CAST, x -> x.evaluate(4, 0, 0));
        e.faulted("points", CAST, x -> x.evaluate(0, 4, 0));
        e.faulted("both", CAST, x -> x.evaluate(4, 4, 0));
    }
}
