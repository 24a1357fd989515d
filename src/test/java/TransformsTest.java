import java.math.BigInteger;

/** Promises 10 to 14: root, transform, times, value, inverse. */
public final class TransformsTest {
    private static final int UNKNOWN = ConvolutionBench.UNKNOWN;
    private static final int STATE = ConvolutionBench.STATE;

    public static void main(String[] args) {
        root();
        transform();
        transformOfEachLength();
        times();
        inverse();
        Check.finish("TransformsTest");
    }

    private static void root() {
        ConvolutionBench x = Rows.bench();
        for (int prime = 0; prime < 3; prime++) {
            long p = Rows.PRIMES[prime];
            for (int n = 1; n <= 64; n++) {
                boolean divides = (p - 1) % n == 0;
                long want = divides ? BigInteger.valueOf(3).modPow(BigInteger.valueOf((p - 1) / n), BigInteger.valueOf(p)).longValue() : 0;
                Check.due("root(" + prime + ", " + n + ")", x.root(prime, n), want);
                Check.due("fault()", x.fault(), divides ? 0 : Rows.ZERO);
            }
        }
        int[][] refused = {{-1, 1}, {3, 1}, {3, 0}, {0, 0}, {0, -1}, {0, 65}, {1, Integer.MIN_VALUE}, {2, Integer.MAX_VALUE}};
        for (int[] r : refused) {
            Rows.spoil(x);
            Check.due("root, refused", x.root(r[0], r[1]), 0);
            Check.due("fault()", x.fault(), 0);
        }
    }

    private static void transform() {
        ConvolutionBench x = Rows.bench();
        Rows.fill(x, 0, Rows.INTS, 1, 2, 3, 4);
        Check.due("transform", x.transform(0, 0), 4);
        Rows.dueSpectrum("transform", x, 10, 173167434, 998244351, 825076915);
        Check.due("its PRIME", x.told(1), 0);
        Rows.fill(x, 1, Rows.LONGS, Long.MIN_VALUE, -1);
        Check.due("transform below 0", x.transform(1, 2), 2);
        long low = Math.floorMod(Long.MIN_VALUE, Rows.PRIMES[2]);
        long minusOne = Rows.PRIMES[2] - 1;
        Rows.dueSpectrum("transform below 0", x, (low + minusOne) % Rows.PRIMES[2], (low + 1) % Rows.PRIMES[2]);
        Check.due("its PRIME", x.told(1), 2);
        Rows.fill(x, 2, Rows.BYTES, 1, 2, 3);
        Rows.fill(x, 3, Rows.DOUBLES, 0, 0, 0);
        Rows.dueRefusal("transform, STATE", x, x.transform(2, 0), STATE);
        Rows.dueFault("transform, CAST ahead of STATE", x, x.transform(3, 0), Rows.CAST);
        Rows.dueFault("transform, NULL", x, x.transform(9, 0), Rows.NULL);
        Rows.dueRefusal("transform, UNKNOWN", x, x.transform(9, 3), UNKNOWN);
        Rows.dueRefusal("transform, UNKNOWN", x, x.transform(9, -1), UNKNOWN);
        Rows.dueRefusal("transform, UNKNOWN", x, x.transform(12, 0), UNKNOWN);
        Rows.dueRefusal("transform, UNKNOWN", x, x.transform(-1, 0), UNKNOWN);
        Check.due("THE SPECTRUM is as it was", x.told(0), 2);
        Check.due("THE SPECTRUM is as it was", x.told(1), 2);
    }

    private static void transformOfEachLength() {
        for (int prime = 0; prime < 3; prime++) {
            BigInteger p = BigInteger.valueOf(Rows.PRIMES[prime]);
            for (int n = 1; n <= 64; n++) {
                if ((Rows.PRIMES[prime] - 1) % n != 0) continue;
                ConvolutionBench x = Rows.bench();
                long[] entries = new long[n];
                for (int i = 0; i < n; i++) {
                    entries[i] = (i + 3L) * 0x123456789abcdefL * (i % 3 - 1);
                }
                Rows.fill(x, 0, Rows.LONGS, entries);
                Check.due("transform", x.transform(0, prime), n);
                BigInteger w = BigInteger.valueOf(x.root(prime, n));
                for (int j = 0; j < n; j++) {
                    BigInteger sum = BigInteger.ZERO;
                    for (int i = 0; i < n; i++) {
                        sum = sum.add(BigInteger.valueOf(entries[i]).multiply(w.pow(i * j % n)));
                    }
                    Check.due("value " + j + " of " + n, x.value(j), sum.mod(p).longValue());
                }
                Check.due("inverse", x.inverse(0), n);
                Check.due("lane", x.kind(0, 0), Rows.LONGS);
                for (int i = 0; i < n; i++) {
                    Check.due("back", x.at(0, i), Math.floorMod(entries[i], Rows.PRIMES[prime]));
                }
            }
        }
    }

    private static void times() {
        ConvolutionBench x = Rows.bench();
        Rows.fill(x, 0, Rows.INTS, 1, 2, 3, 4);
        Rows.fill(x, 1, Rows.SHORTS, 5, -1, 0, 7);
        Rows.fill(x, 2, Rows.BYTES, 1, 1);
        Rows.fill(x, 3, Rows.DOUBLES, 0, 0);
        Rows.dueRefusal("times, no SPECTRUM", x, x.times(0), STATE);
        Rows.dueFault("times, CAST ahead of STATE", x, x.times(3), Rows.CAST);
        Rows.dueFault("times, NULL ahead of STATE", x, x.times(4), Rows.NULL);
        Rows.dueRefusal("times, UNKNOWN", x, x.times(12), UNKNOWN);
        Rows.dueRefusal("times, UNKNOWN", x, x.times(-1), UNKNOWN);
        for (int prime = 0; prime < 3; prime++) {
            Check.due("transform", x.transform(0, prime), 4);
            Check.due("times", x.times(1), 4);
            Check.due("its PRIME stays", x.told(1), prime);
            Check.due("value(0)", x.value(0), 110);
            Check.due("inverse", x.inverse(5), 4);
            Rows.dueRow("a product around", x, 5, 15, 30, 41, 24);
        }
        Rows.dueRefusal("times, another count", x, x.times(2), STATE);
        Rows.fill(x, 6, Rows.LONGS, 1, 0, 0, 0);
        Check.due("times of LONGS", x.times(6), 4);
        Check.due("value(0) is as it was", x.value(0), 110);
    }

    private static void inverse() {
        ConvolutionBench x = Rows.bench();
        Rows.spoil(x);
        Check.due("inverse, no SPECTRUM", x.inverse(0), STATE);
        Check.due("inverse, UNKNOWN", x.inverse(12), UNKNOWN);
        Check.due("inverse, UNKNOWN", x.inverse(-1), UNKNOWN);
        Check.due("inverse names no FAULT", x.fault(), Rows.INDEX);
        Check.due("nothing came", x.kind(0, 0), ConvolutionBench.NONE);
        Rows.fill(x, 0, Rows.INTS, -1, 998244353);
        Check.due("transform", x.transform(0, 0), 2);
        Check.due("share", x.share(1, 0), 1);
        Check.due("inverse", x.inverse(0), 2);
        Rows.dueRow("RESIDUES all", x, 0, 998244352, 0);
        Rows.dueRow("the shared ROW is not the new one", x, 1, -1, 998244353);
        Check.due("value(0)", x.value(0), 998244352);
        Check.due("value behind", x.value(2), UNKNOWN);
        Check.due("value ahead", x.value(-1), UNKNOWN);
    }
}
