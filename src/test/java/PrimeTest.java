import java.math.BigInteger;
import java.util.Random;

/** Promises 24 to 30: power, series, divide, evaluate, interpolate, residue, rest. */
public final class PrimeTest {
    private static final int UNKNOWN = ConvolutionBench.UNKNOWN;
    private static final int OUTSIDE = ConvolutionBench.OUTSIDE;
    private static final int STATE = ConvolutionBench.STATE;
    private static final long P0 = Rows.PRIMES[0];

    public static void main(String[] args) {
        power();
        powerByHand();
        series();
        divide();
        divideRefusals();
        nothingIsLeftOver();
        evaluate();
        interpolate();
        interpolateRefusals();
        randomPolynomials();
        Check.finish("PrimeTest");
    }

    private static void power() {
        ConvolutionBench x = Rows.bench();
        Rows.fill(x, 0, Rows.BYTES, 1, -1);
        Rows.fill(x, 1, Rows.INTS, 0, 0, 0);
        Rows.fill(x, 2, Rows.LONGS, Long.MIN_VALUE, 3, 4);
        Rows.fill(x, 3, Rows.DOUBLES, 0);
        Check.due("power", x.power(0, 0, 3, 6), 6);
        Rows.dueResidues("(1 - X)^3", x, 1, P0 - 3, 3, P0 - 1, 0, 0);
        Check.due("power", x.power(0, 0, 3, 2), 2);
        Rows.dueResidues("cut off", x, 1, P0 - 3);
        Check.due("power", x.power(1, 1, 0, 3), 3);
        Rows.dueResidues("0 to the 0", x, 1, 0, 0);
        Check.due("power", x.power(1, 1, 1000, 2), 2);
        Rows.dueResidues("0 to the 1000", x, 0, 0);
        Check.due("power", x.power(2, 2, 1, 4), 4);
        Rows.dueResidues("to the 1", x, Math.floorMod(Long.MIN_VALUE, Rows.PRIMES[2]), 3, 4, 0);
        Rows.dueRefusal("UNKNOWN", x, x.power(12, 0, -1, 0), UNKNOWN);
        Rows.dueRefusal("UNKNOWN", x, x.power(-1, 0, 1, 1), UNKNOWN);
        Rows.dueRefusal("UNKNOWN", x, x.power(0, 3, 1001, 1), UNKNOWN);
        Rows.dueRefusal("UNKNOWN", x, x.power(0, -1, 1, 1), UNKNOWN);
        Rows.dueRefusal("OUTSIDE", x, x.power(9, 0, -1, 1), OUTSIDE);
        Rows.dueRefusal("OUTSIDE", x, x.power(9, 0, 1001, 1), OUTSIDE);
        Rows.dueRefusal("OUTSIDE", x, x.power(9, 0, 1, 0), OUTSIDE);
        Rows.dueRefusal("OUTSIDE", x, x.power(9, 0, 1, 65), OUTSIDE);
        Rows.dueFault("NULL", x, x.power(9, 0, 1, 1), Rows.NULL);
        Rows.dueFault("CAST", x, x.power(3, 0, 0, 1), Rows.CAST);
        Check.due("as it was", x.told(3), 4);
        Check.due("THE RESTS are not touched", x.told(4), 0);
    }

    private static void powerByHand() {
        Random random = new Random(24);
        for (int round = 0; round < 60; round++) {
            int prime = round % 3;
            long p = Rows.PRIMES[prime];
            long[] a = randomEntries(random, 1 + random.nextInt(64));
            int k = round < 6 ? 995 + round : random.nextInt(40);
            int n = 1 + random.nextInt(64);
            long[] want = new long[n];
            want[0] = 1;
            for (int step = 0; step < k; step++) {
                want = product(want, a, n, p);
            }
            ConvolutionBench x = Rows.bench();
            Rows.fill(x, 0, Rows.LONGS, a);
            Check.due("power", x.power(0, prime, k, n), n);
            Rows.dueResidues("power " + k, x, want);
        }
    }

    private static void series() {
        ConvolutionBench x = Rows.bench();
        Rows.fill(x, 0, Rows.BYTES, 1, -1);
        Rows.fill(x, 1, Rows.INTS, 998244353, 1);
        Rows.fill(x, 2, Rows.LONGS, -P0 * 5, 1);
        Rows.fill(x, 3, Rows.DOUBLES, 1);
        Check.due("series", x.series(0, 0, 5), 5);
        Rows.dueResidues("1 / (1 - X)", x, 1, 1, 1, 1, 1);
        Check.due("series", x.series(0, 0, 1), 1);
        Rows.dueResidues("one entry", x, 1);
        Check.due("other PRIME", x.series(1, 1, 3), 3);
        Check.due("residue", x.residue(0), 669690699);
        Rows.dueRefusal("UNKNOWN", x, x.series(12, 0, 0), UNKNOWN);
        Rows.dueRefusal("UNKNOWN", x, x.series(-1, 0, 1), UNKNOWN);
        Rows.dueRefusal("UNKNOWN", x, x.series(0, 3, 0), UNKNOWN);
        Rows.dueRefusal("UNKNOWN", x, x.series(0, -1, 1), UNKNOWN);
        Rows.dueRefusal("OUTSIDE", x, x.series(9, 0, 0), OUTSIDE);
        Rows.dueRefusal("OUTSIDE", x, x.series(3, 0, 65), OUTSIDE);
        Rows.dueRefusal("OUTSIDE", x, x.series(1, 0, -1), OUTSIDE);
        Rows.dueFault("NULL", x, x.series(9, 0, 1), Rows.NULL);
        Rows.dueFault("CAST", x, x.series(3, 0, 1), Rows.CAST);
        Rows.dueFault("ZERO", x, x.series(1, 0, 1), Rows.ZERO);
        Rows.dueFault("ZERO", x, x.series(2, 0, 64), Rows.ZERO);
        Check.due("as it was", x.told(3), 3);
    }

    private static void divide() {
        ConvolutionBench x = Rows.bench();
        Rows.fill(x, 0, Rows.BYTES, 1, 0, -1, 0, 2);
        Rows.fill(x, 1, Rows.BYTES, 1, 1, 0);
        Rows.fill(x, 2, Rows.INTS, 5, 998244353, 0);
        Rows.fill(x, 3, Rows.BYTES, 0, 0, 0, 7);
        Rows.fill(x, 4, Rows.BYTES, -3, 4);
        Check.due("divide", x.divide(0, 1, 0), 4);
        Rows.dueResidues("by X + 1", x, P0 - 1, 1, P0 - 2, 2);
        Rows.dueRests("by X + 1", x, 2);
        Check.due("divide by degree 0", x.divide(4, 2, 0), 2);
        Check.due("no rest", x.told(4), 0);
        Check.due("times 5 again", x.residue(1) * 5 % P0, 4);
        Check.due("other PRIME: degree 1", x.divide(4, 2, 1), 1);
        Check.due("one rest", x.told(4), 1);
        Check.due("divide by a higher degree", x.divide(4, 3, 0), 0);
        Rows.dueResidues("no quotient", x);
        Rows.dueRests("a's, with 0s behind", x, P0 - 3, 4, 0);
        Check.due("as many entries as the degree", x.divide(1, 3, 0), 0);
        Rows.dueRests("a's", x, 1, 1, 0);
        Check.due("one entry more than the degree", x.divide(3, 3, 0), 1);
        Rows.dueResidues("itself", x, 1);
        Rows.dueRests("itself", x, 0, 0, 0);
    }

    private static void divideRefusals() {
        ConvolutionBench x = Rows.bench();
        Rows.fill(x, 0, Rows.BYTES, 1, 2, 3);
        Rows.fill(x, 1, Rows.BYTES, 1, 1);
        Rows.fill(x, 2, Rows.LONGS, 0, -P0);
        Rows.fill(x, 3, Rows.DOUBLES, 1);
        Check.due("divide", x.divide(0, 1, 0), 2);
        Rows.dueRefusal("UNKNOWN", x, x.divide(12, 9, 0), UNKNOWN);
        Rows.dueRefusal("UNKNOWN", x, x.divide(9, -1, 0), UNKNOWN);
        Rows.dueRefusal("UNKNOWN", x, x.divide(9, 9, 3), UNKNOWN);
        Rows.dueRefusal("UNKNOWN", x, x.divide(9, 9, -1), UNKNOWN);
        Rows.dueFault("NULL", x, x.divide(3, 9, 0), Rows.NULL);
        Rows.dueFault("NULL", x, x.divide(9, 3, 0), Rows.NULL);
        Rows.dueFault("CAST", x, x.divide(3, 2, 0), Rows.CAST);
        Rows.dueFault("CAST", x, x.divide(0, 3, 0), Rows.CAST);
        Rows.dueFault("ZERO", x, x.divide(0, 2, 0), Rows.ZERO);
        Check.due("RESIDUES as they were", x.told(3), 2);
        Check.due("RESTS as they were", x.told(4), 1);
        Check.due("over another PRIME it is not 0", x.divide(0, 2, 1), 2);
    }

    /** A short ROW behind a long one: what the long one left in working rows must not be seen. */
    private static void nothingIsLeftOver() {
        ConvolutionBench x = Rows.bench();
        long[] nines = new long[64];
        java.util.Arrays.fill(nines, 9);
        Rows.fill(x, 0, Rows.BYTES, nines);
        Rows.fill(x, 1, Rows.BYTES, 1, 1);
        Rows.fill(x, 2, Rows.BYTES, 0, 0, 0, 0, 1);
        Check.due("evaluate", x.evaluate(0, 1, 0), 2);
        Check.due("series", x.series(1, 0, 5), 5);
        Rows.dueResidues("series", x, 1, P0 - 1, 1, P0 - 1, 1);
        Check.due("evaluate", x.evaluate(0, 1, 0), 2);
        Check.due("divide", x.divide(1, 2, 0), 0);
        Rows.dueRests("divide", x, 1, 1, 0, 0);
        Check.due("evaluate", x.evaluate(0, 1, 0), 2);
        Check.due("power", x.power(1, 0, 2, 5), 5);
        Rows.dueResidues("power", x, 1, 2, 1, 0, 0);
        Check.due("multiply", x.multiply(0, 0, 2), 127);
        Check.due("multiply", x.multiply(1, 1, 2), 3);
        Rows.dueProduct("multiply", x, 1, 2, 1);
    }

    private static void evaluate() {
        ConvolutionBench x = Rows.bench();
        Rows.fill(x, 0, Rows.SHORTS, 1, 2, 3);
        Rows.fill(x, 1, Rows.LONGS, 0, 1, -1, 998244353, Long.MAX_VALUE);
        Rows.fill(x, 2, Rows.DOUBLES, 1);
        Check.due("evaluate", x.evaluate(0, 1, 0), 5);
        BigInteger far = BigInteger.valueOf(Long.MAX_VALUE);
        long want = far.multiply(far).multiply(BigInteger.valueOf(3)).add(far.shiftLeft(1)).add(BigInteger.ONE)
            .mod(BigInteger.valueOf(P0)).longValue();
        Rows.dueResidues("evaluate", x, 1, 6, 2, 1, want);
        Check.due("evaluate at itself", x.evaluate(0, 0, 2), 3);
        Rows.dueResidues("evaluate", x, 6, 17, 34);
        Rows.dueRefusal("UNKNOWN", x, x.evaluate(12, 9, 0), UNKNOWN);
        Rows.dueRefusal("UNKNOWN", x, x.evaluate(9, -1, 0), UNKNOWN);
        Rows.dueRefusal("UNKNOWN", x, x.evaluate(9, 9, 3), UNKNOWN);
        Rows.dueRefusal("UNKNOWN", x, x.evaluate(9, 9, -1), UNKNOWN);
        Rows.dueFault("NULL", x, x.evaluate(2, 9, 0), Rows.NULL);
        Rows.dueFault("NULL", x, x.evaluate(9, 2, 0), Rows.NULL);
        Rows.dueFault("CAST", x, x.evaluate(2, 0, 0), Rows.CAST);
        Rows.dueFault("CAST", x, x.evaluate(0, 2, 0), Rows.CAST);
        Check.due("as it was", x.told(3), 3);
    }

    private static void interpolate() {
        ConvolutionBench x = Rows.bench();
        Rows.fill(x, 0, Rows.BYTES, 0, 1, -1);
        Rows.fill(x, 1, Rows.BYTES, 1, 6, 2);
        for (int prime = 0; prime < 3; prime++) {
            Check.due("interpolate", x.interpolate(0, 1, prime), 3);
            Rows.dueResidues("1 + 2 X + 3 X X", x, 1, 2, 3);
        }
        Rows.fill(x, 2, Rows.LONGS, Long.MIN_VALUE);
        Check.due("one point", x.interpolate(2, 2, 1), 1);
        Rows.dueResidues("one point", x, Math.floorMod(Long.MIN_VALUE, Rows.PRIMES[1]));
        Rows.fill(x, 3, Rows.BYTES, 5, 6, 7);
        Check.due("interpolate", x.interpolate(3, 3, 2), 3);
        Rows.dueResidues("X, with a 0 behind", x, 0, 1, 0);
    }

    private static void interpolateRefusals() {
        ConvolutionBench x = Rows.bench();
        Rows.fill(x, 0, Rows.BYTES, 0, 1, -1);
        Rows.fill(x, 1, Rows.LONGS, 0, P0);
        Rows.fill(x, 2, Rows.DOUBLES, 1);
        Rows.fill(x, 3, Rows.BYTES, 4, 5, 4);
        Rows.fill(x, 4, Rows.BYTES, 1, 1);
        Check.due("interpolate", x.interpolate(0, 3, 0), 3);
        Rows.dueRefusal("UNKNOWN", x, x.interpolate(12, 9, 0), UNKNOWN);
        Rows.dueRefusal("UNKNOWN", x, x.interpolate(9, -1, 0), UNKNOWN);
        Rows.dueRefusal("UNKNOWN", x, x.interpolate(9, 9, 3), UNKNOWN);
        Rows.dueRefusal("UNKNOWN", x, x.interpolate(9, 9, -1), UNKNOWN);
        Rows.dueFault("NULL", x, x.interpolate(2, 9, 0), Rows.NULL);
        Rows.dueFault("NULL", x, x.interpolate(9, 2, 0), Rows.NULL);
        Rows.dueFault("CAST ahead of STATE", x, x.interpolate(2, 0, 0), Rows.CAST);
        Rows.dueFault("CAST ahead of STATE", x, x.interpolate(0, 2, 0), Rows.CAST);
        Rows.dueRefusal("STATE ahead of ZERO", x, x.interpolate(1, 0, 0), STATE);
        Rows.dueRefusal("STATE", x, x.interpolate(0, 1, 0), STATE);
        Rows.dueFault("ZERO", x, x.interpolate(3, 0, 0), Rows.ZERO);
        Rows.dueFault("ZERO: alike over the PRIME", x, x.interpolate(1, 4, 0), Rows.ZERO);
        Check.due("as it was", x.told(3), 3);
        Check.due("not alike over another PRIME", x.interpolate(1, 4, 1), 2);
        Rows.dueResidues("always 1", x, 1, 0);
    }

    /** What each call makes is put to the test by what it is to be, not by how it is reckoned. */
    private static void randomPolynomials() {
        Random random = new Random(28);
        for (int round = 0; round < 150; round++) {
            int prime = round % 3;
            long p = Rows.PRIMES[prime];
            long[] a = randomEntries(random, 1 + random.nextInt(64));
            long[] b = randomEntries(random, 1 + random.nextInt(64));
            if (random.nextInt(3) == 0) b[b.length - 1] = 0;
            inverseTimesItself(a, prime, p, 1 + random.nextInt(64));
            quotientTimesDivisor(a, b, prime, p);
            valuesAndBack(a, prime, p);
        }
    }

    private static void inverseTimesItself(long[] a, int prime, long p, int n) {
        ConvolutionBench x = Rows.bench();
        Rows.fill(x, 0, Rows.LONGS, a);
        boolean zero = Math.floorMod(a[0], p) == 0;
        Check.due("series", x.series(0, prime, n), zero ? -15 : n);
        if (zero) return;
        long[] product = product(residues(x), a, n, p);
        for (int k = 0; k < n; k++) {
            Check.due("series times the ROW", product[k], k == 0 ? 1 : 0);
        }
    }

    private static void quotientTimesDivisor(long[] a, long[] b, int prime, long p) {
        ConvolutionBench x = Rows.bench();
        Rows.fill(x, 0, Rows.LONGS, a);
        Rows.fill(x, 1, Rows.LONGS, b);
        int degree = b.length - 1;
        while (degree >= 0 && Math.floorMod(b[degree], p) == 0) {
            degree--;
        }
        int count = Math.max(0, a.length - degree);
        Check.due("divide", x.divide(0, 1, prime), degree < 0 ? -15 : count);
        if (degree < 0) return;
        Check.due("told(3)", x.told(3), count);
        Check.due("told(4)", x.told(4), degree);
        long[] back = product(residues(x), b, 200, p);
        for (int k = 0; k < 200; k++) {
            long rest = k < degree ? x.rest(k) : 0;
            Check.due("quotient times divisor and rest", (back[k] + rest) % p, k < a.length ? Math.floorMod(a[k], p) : 0);
        }
    }

    private static void valuesAndBack(long[] a, int prime, long p) {
        ConvolutionBench x = Rows.bench();
        Rows.fill(x, 0, Rows.LONGS, a);
        long[] points = new long[a.length];
        for (int i = 0; i < points.length; i++) {
            points[i] = (i - 20L) * 123456789123L;
        }
        Rows.fill(x, 1, Rows.LONGS, points);
        Check.due("evaluate", x.evaluate(0, 1, prime), a.length);
        long[] values = residues(x);
        BigInteger modulus = BigInteger.valueOf(p);
        for (int i = 0; i < points.length; i++) {
            BigInteger sum = BigInteger.ZERO;
            for (int k = a.length - 1; k >= 0; k--) {
                sum = sum.multiply(BigInteger.valueOf(points[i])).add(BigInteger.valueOf(a[k])).mod(modulus);
            }
            Check.due("value at a point", values[i], sum.longValue());
        }
        Rows.fill(x, 2, Rows.LONGS, values);
        Check.due("interpolate", x.interpolate(1, 2, prime), a.length);
        long[] back = residues(x);
        for (int k = 0; k < a.length; k++) {
            Check.due("the polynomial again", back[k], Math.floorMod(a[k], p));
        }
    }

    private static long[] residues(ConvolutionBench x) {
        long[] residues = new long[x.told(3)];
        for (int i = 0; i < residues.length; i++) {
            residues[i] = x.residue(i);
            Check.holds("0 .. P - 1", residues[i] >= 0 && residues[i] < Rows.PRIMES[1]);
        }
        return residues;
    }

    private static long[] product(long[] a, long[] b, int n, long p) {
        long[] product = new long[n];
        for (int i = 0; i < a.length && i < n; i++) {
            for (int j = 0; j < b.length && i + j < n; j++) {
                product[i + j] = (product[i + j] + Math.floorMod(a[i], p) * Math.floorMod(b[j], p)) % p;
            }
        }
        return product;
    }

    private static long[] randomEntries(Random random, int n) {
        long[] entries = new long[n];
        int style = random.nextInt(3);
        for (int i = 0; i < n; i++) {
            entries[i] = style == 0 ? random.nextInt(5) - 2 : style == 1 ? random.nextInt() : random.nextLong();
            if (random.nextInt(20) == 0) entries[i] = Rows.PRIMES[random.nextInt(3)] * (random.nextInt(7) - 3);
        }
        return entries;
    }
}
