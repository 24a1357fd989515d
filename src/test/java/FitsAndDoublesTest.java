import java.util.Random;

/** Promises 31 to 34: match, matchAt, real, realAt. */
public final class FitsAndDoublesTest {
    private static final int UNKNOWN = ConvolutionBench.UNKNOWN;
    private static final double INFINITY = Double.POSITIVE_INFINITY;

    public static void main(String[] args) {
        match();
        matchRefusals();
        real();
        realRounding();
        realNotANumber();
        realEdges();
        longestReals();
        randomReals();
        Check.finish("FitsAndDoublesTest");
    }

    private static void match() {
        ConvolutionBench x = Rows.bench();
        Rows.fill(x, 0, Rows.BYTES, 1, 2, 1, 2, 3);
        Rows.fill(x, 1, Rows.LONGS, 1, 2);
        Check.due("match", x.match(0, 1, 99), 2);
        Rows.dueFits("match", x, 0, 2);
        Check.due("wild in both", x.match(0, 1, 2), 4);
        Rows.dueFits("wild in both", x, 0, 1, 2, 3);
        Check.due("wild in both", x.match(0, 1, 1), 3);
        Rows.dueFits("wild in both", x, 0, 1, 2);
        Rows.fill(x, 2, Rows.SHORTS, 0, 3);
        Check.due("wild in the pattern", x.match(0, 2, 0), 1);
        Rows.dueFits("wild in the pattern", x, 3);
        Rows.fill(x, 3, Rows.INTS, 7, 0, 7, 8);
        Rows.fill(x, 4, Rows.INTS, 7, 7);
        Check.due("wild in the text", x.match(3, 4, 0), 2);
        Rows.dueFits("wild in the text", x, 0, 1);
        Check.due("the whole text", x.match(0, 0, 99), 1);
        Rows.dueFits("the whole text", x, 0);
        Check.due("a pattern that is longer", x.match(1, 0, 99), 0);
        Rows.dueFits("a pattern that is longer", x);
        Rows.fill(x, 5, Rows.LONGS, 257);
        Rows.fill(x, 6, Rows.LONGS, 1L << 32 | 1);
        Check.due("told alike, not cast", x.match(0, 5, 99), 0);
        Check.due("told alike, not cast", x.match(0, 6, 99), 0);
        Check.due("the wild one is told, not cast", x.match(0, 5, 513), 0);
        Check.due("the wild one is told, not cast", x.match(0, 5, 257), 5);
        Rows.fill(x, 7, Rows.BYTES, -1);
        Rows.fill(x, 8, Rows.LONGS, -1);
        Check.due("told alike with signs", x.match(7, 8, 0), 1);
        long[] all = new long[64];
        Rows.fill(x, 9, Rows.BYTES, all);
        Rows.fill(x, 10, Rows.LONGS, 0);
        Check.due("everywhere", x.match(9, 10, 5), 64);
        Check.due("the last", x.matchAt(63), 63);
        Check.due("behind", x.matchAt(64), ConvolutionBench.NONE);
    }

    private static void matchRefusals() {
        ConvolutionBench x = Rows.bench();
        Rows.fill(x, 0, Rows.BYTES, 1, 1);
        Rows.fill(x, 1, Rows.BYTES, 1);
        Rows.fill(x, 2, Rows.DOUBLES, 1);
        Check.due("match", x.match(0, 1, 0), 2);
        Rows.dueRefusal("UNKNOWN", x, x.match(12, 9, 0), UNKNOWN);
        Rows.dueRefusal("UNKNOWN", x, x.match(9, -1, 0), UNKNOWN);
        Rows.dueFault("NULL", x, x.match(2, 9, 0), Rows.NULL);
        Rows.dueFault("NULL", x, x.match(9, 2, 0), Rows.NULL);
        Rows.dueFault("CAST", x, x.match(2, 0, 0), Rows.CAST);
        Rows.dueFault("CAST", x, x.match(0, 2, 0), Rows.CAST);
        Rows.dueFits("as they were", x, 0, 1);
    }

    private static void real() {
        ConvolutionBench x = Rows.bench();
        Rows.fillDoubles(x, 0, 0.5, -1.25);
        Rows.fill(x, 1, Rows.BYTES, 2, 3, -4);
        Check.due("real", x.real(0, 1), 4);
        Rows.dueReals("real", x, 1.0, 1.5 - 2.5, -2.0 - 3.75, 5.0);
        Rows.fill(x, 2, Rows.LONGS, Long.MAX_VALUE, (1L << 53) + 1, Long.MIN_VALUE);
        Rows.fill(x, 3, Rows.SHORTS, 1);
        Check.due("WHOLE ones are cast", x.real(2, 3), 3);
        Rows.dueReals("WHOLE ones are cast", x, 0x1p63, 0x1p53, -0x1p63);
        Rows.dueRefusal("UNKNOWN", x, x.real(12, 9), UNKNOWN);
        Rows.dueRefusal("UNKNOWN", x, x.real(9, -1), UNKNOWN);
        Rows.dueFault("NULL", x, x.real(0, 9), Rows.NULL);
        Rows.dueFault("NULL", x, x.real(9, 0), Rows.NULL);
        Check.due("as they were", x.told(6), 3);
        Check.due("real names no CAST", x.real(3, 0), 2);
        Check.due("fault()", x.fault(), 0);
    }

    private static void realRounding() {
        ConvolutionBench x = Rows.bench();
        Rows.fillDoubles(x, 0, 0.1, 0.2, 0.3);
        Rows.fillDoubles(x, 1, 0.3, 0.2, 0.1);
        Check.due("real", x.real(0, 1), 5);
        Rows.dueReals("each act by itself", x, 0.0 + 0.1 * 0.3, 0.0 + 0.1 * 0.2 + 0.2 * 0.3,
            0.0 + 0.1 * 0.1 + 0.2 * 0.2 + 0.3 * 0.3, 0.0 + 0.2 * 0.1 + 0.3 * 0.2, 0.0 + 0.3 * 0.1);
        // 1 + 2^-53 + 2^-53: by rising i the small ones are lost one by one, the other way round they are not
        double small = 0x1p-53;
        Rows.fillDoubles(x, 0, 1.0, small, small);
        Rows.fillDoubles(x, 1, 1.0, 1.0, 1.0);
        Check.due("real", x.real(0, 1), 5);
        Rows.dueReals("by rising i", x, 1.0, 1.0, 1.0, small + small, small);
        // a fused act would keep what the product's own rounding loses
        double a = 1.0 + 0x1p-30;
        Rows.fillDoubles(x, 0, a, -1.0);
        Rows.fillDoubles(x, 1, a * a, a);
        Check.due("real", x.real(0, 1), 3);
        Rows.dueReals("no fused act", x, a * (a * a), 0.0 + a * a - a * a, -a);
    }

    private static void realNotANumber() {
        ConvolutionBench x = Rows.bench();
        Rows.fillDoubles(x, 0, Double.NaN, 1.0);
        Rows.fillDoubles(x, 1, 1.0, 2.0);
        Check.due("real", x.real(0, 1), 3);
        Rows.dueReals("meets one", x, Double.NaN, Double.NaN, 2.0);
        Check.due("real", x.real(1, 0), 3);
        Rows.dueReals("meets one", x, Double.NaN, Double.NaN, 2.0);
        Rows.fillDoubles(x, 0, INFINITY, 1.0);
        Rows.fillDoubles(x, 1, 0.0, 2.0, -INFINITY);
        Check.due("real", x.real(0, 1), 4);
        Rows.dueReals("infinite times 0", x, Double.NaN, INFINITY, -INFINITY, -INFINITY);
        Rows.fillDoubles(x, 0, -0.0, 1.0);
        Rows.fillDoubles(x, 1, -INFINITY, INFINITY);
        Check.due("real", x.real(0, 1), 3);
        Rows.dueReals("0 times infinite", x, Double.NaN, Double.NaN, INFINITY);
        Rows.fillDoubles(x, 0, INFINITY, 1.0);
        Rows.fillDoubles(x, 1, -INFINITY, -INFINITY);
        Check.due("real", x.real(0, 1), 3);
        Rows.dueReals("both below 0", x, -INFINITY, -INFINITY, -INFINITY);
        Rows.fillDoubles(x, 0, INFINITY, 1.0, 1.0);
        Rows.fillDoubles(x, 1, 1.0, 1.0, -INFINITY);
        Check.due("real", x.real(0, 1), 5);
        Rows.dueReals("infinite less infinite", x, INFINITY, INFINITY, -INFINITY, -INFINITY, -INFINITY);
        Rows.fillDoubles(x, 0, INFINITY, -INFINITY, 1.0);
        Rows.fillDoubles(x, 1, 1.0, 1.0, 1.0);
        Check.due("real", x.real(0, 1), 5);
        Rows.dueReals("infinite less infinite, then more", x, INFINITY, Double.NaN, Double.NaN, -INFINITY, 1.0);
        Rows.fill(x, 2, Rows.INTS, 0, 1);
        Check.due("real", x.real(2, 0), 4);
        Rows.dueReals("a WHOLE 0 times infinite", x, Double.NaN, Double.NaN, -INFINITY, 1.0);
        Rows.fillDoubles(x, 0, Double.MAX_VALUE, -Double.MAX_VALUE);
        Rows.fillDoubles(x, 1, 2.0, 2.0);
        Check.due("real", x.real(0, 1), 3);
        Rows.dueReals("products past all doubles", x, INFINITY, Double.NaN, -INFINITY);
    }

    private static void realEdges() {
        double[] edges = {0.0, -0.0, 1.0, -1.0, 2.0, 0.5, Double.MIN_VALUE, -Double.MIN_VALUE, 3 * Double.MIN_VALUE,
            Double.MIN_NORMAL, -Double.MIN_NORMAL, Double.MIN_NORMAL - Double.MIN_VALUE, 2 * Double.MIN_NORMAL,
            Double.MAX_VALUE, -Double.MAX_VALUE, 0x1p1023, 0x1p1022, 0x1p512, 0x1p-512, 0x1p-1023, 0x1.fffffffffffffp0,
            INFINITY, -INFINITY, Double.NaN, Math.PI, 0x1p-537, 0x1p537, 0x1.8p-538, 1e308, 1e-308};
        for (double a : edges) {
            for (double b : edges) {
                ConvolutionBench x = Rows.bench();
                Rows.fillDoubles(x, 0, a);
                Rows.fillDoubles(x, 1, b);
                Check.due("real", x.real(0, 1), 1);
                Rows.dueReals(a + " times " + b, x, 0.0 + a * b);
                Rows.fillDoubles(x, 0, a, 1.0);
                Rows.fillDoubles(x, 1, 1.0, b);
                Check.due("real", x.real(0, 1), 3);
                Rows.dueReals(a + " and " + b, x, 0.0 + a, 0.0 + a * b + 1.0, 0.0 + b);
                Rows.fillDoubles(x, 0, a, b);
                Rows.fillDoubles(x, 1, 1.0, 1.0);
                Check.due("real", x.real(0, 1), 3);
                Rows.dueReals(a + " and " + b, x, 0.0 + a, 0.0 + a + b, 0.0 + b);
            }
        }
        for (int exponent = -1074; exponent <= 1023; exponent++) {
            ConvolutionBench x = Rows.bench();
            double power = Math.scalb(1.0, exponent);
            Rows.fillDoubles(x, 0, power, -power);
            Rows.fill(x, 1, Rows.BYTES, 1);
            Check.due("real", x.real(0, 1), 2);
            Rows.dueReals("2 to the " + exponent, x, power, -power);
        }
    }

    private static void longestReals() {
        ConvolutionBench x = Rows.bench();
        long[] ones = new long[64];
        java.util.Arrays.fill(ones, 1);
        Rows.fill(x, 0, Rows.INTS, ones);
        Check.due("real", x.real(0, 0), 127);
        double[] want = new double[127];
        for (int k = 0; k < 127; k++) {
            want[k] = Math.min(k + 1, 127 - k);
        }
        Rows.dueReals("longest", x, want);
    }

    private static void randomReals() {
        Random random = new Random(33);
        for (int round = 0; round < 600; round++) {
            ConvolutionBench x = Rows.bench();
            double[] a = randomDoubles(random, 1 + random.nextInt(64), round % 4);
            double[] b = randomDoubles(random, 1 + random.nextInt(64), random.nextInt(4));
            Rows.fillDoubles(x, 0, a);
            Rows.fillDoubles(x, 1, b);
            double[] want = new double[a.length + b.length - 1];
            for (int k = 0; k < want.length; k++) {
                double sum = 0.0;
                for (int i = 0; i < a.length; i++) {
                    if (k - i >= 0 && k - i < b.length) sum = sum + a[i] * b[k - i];
                }
                want[k] = sum;
            }
            Check.due("real", x.real(0, 1), want.length);
            Rows.dueReals("real", x, want);
        }
    }

    private static double[] randomDoubles(Random random, int n, int style) {
        double[] entries = new double[n];
        for (int i = 0; i < n; i++) {
            switch (style) {
                case 0: entries[i] = random.nextGaussian(); break;
                case 1: entries[i] = Double.longBitsToDouble(random.nextLong()); break;
                case 2: entries[i] = Math.scalb(random.nextDouble() - 0.5, random.nextInt(120) - 560); break;
                default: entries[i] = Math.scalb(random.nextDouble() - 0.5, random.nextInt(30) + 500); break;
            }
        }
        return entries;
    }
}
