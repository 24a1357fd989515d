import java.math.BigInteger;
import java.util.Random;

/** Promises 15 to 23: multiply, circular, correlate, slide, high, low, carry, cost, plan. */
public final class ProductsTest {
    private static final int UNKNOWN = ConvolutionBench.UNKNOWN;
    private static final int OUTSIDE = ConvolutionBench.OUTSIDE;
    private static final int STATE = ConvolutionBench.STATE;
    private static final int FULL = ConvolutionBench.FULL;
    private static final long MIN = Integer.MIN_VALUE;

    public static void main(String[] args) {
        multiply();
        multiplyRefusals();
        onePrimeEdge();
        longestProducts();
        greatestProducts();
        randomProducts();
        circular();
        correlate();
        slide();
        carry();
        carryFull();
        carryOfGreatEntries();
        cost();
        Check.finish("ProductsTest");
    }

    private static void multiply() {
        ConvolutionBench x = Rows.bench();
        Rows.fill(x, 0, Rows.BYTES, 1, -2, 3);
        Rows.fill(x, 1, Rows.SHORTS, 4, 5);
        Rows.fill(x, 2, Rows.INTS, -7);
        for (int way = 0; way < 3; way++) {
            Check.due("multiply", x.multiply(0, 1, way), 4);
            Rows.dueProduct("multiply by " + way, x, 4, -3, 2, 15);
            Check.due("multiply", x.multiply(1, 2, way), 2);
            Rows.dueProduct("multiply by " + way, x, -28, -35);
            Check.due("multiply", x.multiply(2, 2, way), 1);
            Rows.dueProduct("multiply by " + way, x, 49);
            Check.due("fault()", x.fault(), 0);
        }
        Check.due("high ahead", x.high(-1), 0);
        Check.due("low ahead", x.low(-1), 0);
        Check.due("high far", x.high(Integer.MAX_VALUE), 0);
        Check.due("low far", x.low(Integer.MIN_VALUE), 0);
    }

    private static void multiplyRefusals() {
        ConvolutionBench x = Rows.bench();
        Rows.fill(x, 0, Rows.INTS, 2, 3);
        Rows.fill(x, 1, Rows.LONGS, 1);
        Rows.fill(x, 2, Rows.DOUBLES, 1);
        Rows.fill(x, 3, Rows.INTS, MIN, MIN);
        Check.due("multiply", x.multiply(0, 0, 0), 3);
        Rows.dueRefusal("UNKNOWN", x, x.multiply(12, 9, 7), UNKNOWN);
        Rows.dueRefusal("UNKNOWN", x, x.multiply(0, -1, 0), UNKNOWN);
        Rows.dueRefusal("UNKNOWN", x, x.multiply(-1, 0, 0), UNKNOWN);
        Rows.dueRefusal("UNKNOWN", x, x.multiply(0, 12, 0), UNKNOWN);
        Rows.dueRefusal("OUTSIDE", x, x.multiply(9, 9, 3), OUTSIDE);
        Rows.dueRefusal("OUTSIDE", x, x.multiply(9, 9, -1), OUTSIDE);
        Rows.dueFault("NULL", x, x.multiply(9, 1, 0), Rows.NULL);
        Rows.dueFault("NULL ahead of CAST", x, x.multiply(1, 9, 0), Rows.NULL);
        for (int way = 0; way < 3; way++) {
            Rows.dueFault("CAST", x, x.multiply(1, 0, way), Rows.CAST);
            Rows.dueFault("CAST", x, x.multiply(0, 1, way), Rows.CAST);
            Rows.dueFault("CAST", x, x.multiply(2, 0, way), Rows.CAST);
            Rows.dueFault("CAST ahead of STATE", x, x.multiply(3, 2, way), Rows.CAST);
        }
        Rows.spoil(x);
        Rows.dueRefusal("STATE", x, x.multiply(3, 3, 1), STATE);
        Rows.dueProduct("THE PRODUCT is as it was", x, 4, 12, 9);
    }

    /** Way 1 is refused from where twice the shorter count times both sizes reaches the PRIME. */
    private static void onePrimeEdge() {
        ConvolutionBench x = Rows.bench();
        Rows.fill(x, 1, Rows.BYTES, -1);
        long[] edges = {499122175, 499122176, 499122177, -499122176, -499122177, Integer.MAX_VALUE, MIN};
        for (long v : edges) {
            Rows.fill(x, 0, Rows.INTS, v, 0, 0);
            boolean fits = 2 * Math.abs(v) < Rows.PRIMES[0];
            Check.due("multiply of " + v, x.multiply(0, 1, 1), fits ? 3 : STATE);
            if (fits) Rows.dueProduct("multiply of " + v, x, -v, 0, 0);
        }
        Rows.fill(x, 2, Rows.INTS, 0, 0);
        Rows.fill(x, 3, Rows.INTS, MIN, MIN);
        Check.due("one of them all 0", x.multiply(2, 3, 1), 3);
        Rows.dueProduct("one of them all 0", x, 0, 0, 0);
        Rows.fill(x, 4, Rows.INTS, 15797, -15797);
        Rows.fill(x, 5, Rows.INTS, 15798, 15798, 15799);
        Check.due("2 * 2 * 15797 * 15799 is not below", x.multiply(4, 5, 1), STATE);
        Rows.fill(x, 5, Rows.INTS, 15798, 15798, 15798);
        Check.due("2 * 2 * 15797 * 15798 is below", x.multiply(4, 5, 1), 4);
        Rows.dueProduct("just below", x, 15797L * 15798L, 0, 0, -15797L * 15798L);
        Rows.fill(x, 5, Rows.INTS, 15798, -15798);
        Check.due("2 * 2 * 15797 * 15798 is below", x.multiply(4, 5, 1), 3);
        Rows.dueProduct("twice, just below", x, 15797L * 15798L, -2 * 15797L * 15798L, 15797L * 15798L);
        // 2 * 64 * 2^31 * 2^31 wraps around to 0 in a long: it must be refused all the same
        long[] all = new long[64];
        java.util.Arrays.fill(all, MIN);
        Rows.fill(x, 6, Rows.INTS, all);
        Check.due("the greatest", x.multiply(6, 6, 1), STATE);
    }

    private static void longestProducts() {
        long[] a = new long[64];
        long[] b = new long[64];
        for (int i = 0; i < 64; i++) {
            a[i] = i % 2 == 0 ? i : -i;
            b[i] = 100 - i;
        }
        BigInteger[] want = product(a, b);
        for (int way = 0; way < 3; way++) {
            ConvolutionBench x = benchWith(a, b);
            Check.due("multiply", x.multiply(0, 1, way), 127);
            dueWides("longest by " + way, x, want);
        }
        ConvolutionBench x = benchWith(a, b);
        Check.due("correlate", x.correlate(0, 1), 127);
        dueWides("longest correlate", x, product(a, turned(b)));
    }

    private static void greatestProducts() {
        long[] least = new long[64];
        java.util.Arrays.fill(least, MIN);
        long[] most = new long[64];
        java.util.Arrays.fill(most, Integer.MAX_VALUE);
        for (int way = 0; way < 3; way += 2) {
            for (int b = 0; b < 2; b++) {
                ConvolutionBench x = benchWith(least, most);
                Check.due("multiply", x.multiply(0, b, way), 127);
                BigInteger one = BigInteger.valueOf(MIN).multiply(BigInteger.valueOf(b == 0 ? MIN : Integer.MAX_VALUE));
                for (int k = 0; k < 127; k++) {
                    dueWide("greatest " + k, x, k, one.multiply(BigInteger.valueOf(Math.min(k + 1, 127 - k))));
                }
            }
        }
        ConvolutionBench x = benchWith(least, most);
        Check.due("circular", x.circular(0, 0, 1), 1);
        dueWide("circular, the greatest of all", x, 0, BigInteger.ONE.shiftLeft(74));
        Check.due("circular", x.circular(0, 1, 64), 64);
        dueWide("circular", x, 63, BigInteger.valueOf(MIN * Integer.MAX_VALUE).multiply(BigInteger.valueOf(64)));
    }

    private static void randomProducts() {
        Random random = new Random(15);
        for (int round = 0; round < 400; round++) {
            long[] a = randomEntries(random, round % 5);
            long[] b = randomEntries(random, random.nextInt(5));
            BigInteger[] product = product(a, b);
            BigInteger bound = BigInteger.valueOf(2L * Math.min(a.length, b.length)).multiply(greatest(a)).multiply(greatest(b));
            for (int way = 0; way < 3; way++) {
                ConvolutionBench x = benchWith(a, b);
                boolean refused = way == 1 && bound.compareTo(BigInteger.valueOf(Rows.PRIMES[0])) >= 0;
                Check.due("multiply", x.multiply(0, 1, way), refused ? STATE : product.length);
                if (!refused) dueWides("way " + way, x, product);
            }
            int n = 1 + random.nextInt(64);
            ConvolutionBench x = benchWith(a, b);
            Check.due("circular", x.circular(0, 1, n), n);
            dueWides("circular", x, folded(product, n));
            x = benchWith(a, b);
            Check.due("correlate", x.correlate(0, 1), product.length);
            dueWides("correlate", x, product(a, turned(b)));
        }
    }

    private static ConvolutionBench benchWith(long[] a, long[] b) {
        ConvolutionBench x = Rows.bench();
        Rows.fill(x, 0, Rows.INTS, a);
        Rows.fill(x, 1, Rows.INTS, b);
        return x;
    }

    private static void dueWides(String what, ConvolutionBench x, BigInteger[] want) {
        for (int k = 0; k < want.length; k++) {
            dueWide(what + ", entry " + k, x, k, want[k]);
        }
    }

    private static BigInteger[] folded(BigInteger[] product, int n) {
        BigInteger[] folded = new BigInteger[n];
        java.util.Arrays.fill(folded, BigInteger.ZERO);
        for (int k = 0; k < product.length; k++) {
            folded[k % n] = folded[k % n].add(product[k]);
        }
        return folded;
    }

    private static void circular() {
        ConvolutionBench x = Rows.bench();
        Rows.fill(x, 0, Rows.BYTES, 1, 2, 3);
        Rows.fill(x, 1, Rows.INTS, 10, 20);
        Rows.fill(x, 2, Rows.LONGS, 1);
        Check.due("circular", x.circular(0, 1, 1), 1);
        Rows.dueProduct("around 1", x, 180);
        Check.due("circular", x.circular(0, 1, 2), 2);
        Rows.dueProduct("around 2", x, 10 + 70, 40 + 60);
        Check.due("circular", x.circular(0, 1, 3), 3);
        Rows.dueProduct("around 3", x, 70, 40, 70);
        Check.due("circular", x.circular(0, 1, 6), 6);
        Rows.dueProduct("around 6", x, 10, 40, 70, 60, 0, 0);
        Rows.dueRefusal("UNKNOWN", x, x.circular(12, 0, 0), UNKNOWN);
        Rows.dueRefusal("UNKNOWN", x, x.circular(0, -1, 1), UNKNOWN);
        Rows.dueRefusal("OUTSIDE", x, x.circular(9, 0, 0), OUTSIDE);
        Rows.dueRefusal("OUTSIDE", x, x.circular(2, 0, 65), OUTSIDE);
        Rows.dueRefusal("OUTSIDE", x, x.circular(0, 0, -1), OUTSIDE);
        Rows.dueFault("NULL", x, x.circular(2, 9, 1), Rows.NULL);
        Rows.dueFault("NULL", x, x.circular(9, 2, 1), Rows.NULL);
        Rows.dueFault("CAST", x, x.circular(2, 0, 1), Rows.CAST);
        Rows.dueFault("CAST", x, x.circular(0, 2, 1), Rows.CAST);
        Check.due("as it was", x.told(2), 6);
    }

    private static void correlate() {
        ConvolutionBench x = Rows.bench();
        Rows.fill(x, 0, Rows.BYTES, 1, 2, 3);
        Rows.fill(x, 1, Rows.INTS, 10, 20);
        Rows.fill(x, 2, Rows.LONGS, 1);
        Check.due("correlate", x.correlate(0, 1), 4);
        Rows.dueProduct("correlate", x, 20, 10 + 40, 20 + 60, 30);
        Check.due("correlate", x.correlate(1, 0), 4);
        Rows.dueProduct("correlate", x, 30, 20 + 60, 10 + 40, 20);
        Rows.dueRefusal("UNKNOWN", x, x.correlate(12, 9), UNKNOWN);
        Rows.dueRefusal("UNKNOWN", x, x.correlate(9, -1), UNKNOWN);
        Rows.dueFault("NULL", x, x.correlate(2, 9), Rows.NULL);
        Rows.dueFault("NULL", x, x.correlate(9, 2), Rows.NULL);
        Rows.dueFault("CAST", x, x.correlate(2, 0), Rows.CAST);
        Rows.dueFault("CAST", x, x.correlate(0, 2), Rows.CAST);
        Check.due("as it was", x.told(2), 4);
    }

    private static void slide() {
        ConvolutionBench x = Rows.bench();
        long[] all = new long[64];
        java.util.Arrays.fill(all, Long.MIN_VALUE);
        Rows.fill(x, 0, Rows.LONGS, all);
        Rows.fill(x, 1, Rows.BYTES, 1, 2, 3);
        Rows.fill(x, 2, Rows.DOUBLES, 1, 2, 3);
        Check.due("slide", x.slide(0, 64), 1);
        dueWide("slide, the least of all", x, 0, BigInteger.ONE.shiftLeft(69).negate());
        Check.due("slide", x.slide(0, 3), 62);
        dueWide("slide", x, 61, BigInteger.valueOf(Long.MIN_VALUE).multiply(BigInteger.valueOf(3)));
        Check.due("slide", x.slide(1, 1), 3);
        Rows.dueProduct("slide", x, 1, 2, 3);
        Check.due("slide", x.slide(1, 2), 2);
        Rows.dueProduct("slide", x, 3, 5);
        Rows.dueRefusal("UNKNOWN", x, x.slide(12, 0), UNKNOWN);
        Rows.dueRefusal("UNKNOWN", x, x.slide(-1, 1), UNKNOWN);
        Rows.dueRefusal("OUTSIDE", x, x.slide(9, 0), OUTSIDE);
        Rows.dueRefusal("OUTSIDE", x, x.slide(2, 65), OUTSIDE);
        Rows.dueRefusal("OUTSIDE", x, x.slide(2, -1), OUTSIDE);
        Rows.dueFault("NULL", x, x.slide(9, 1), Rows.NULL);
        Rows.dueFault("CAST", x, x.slide(2, 1), Rows.CAST);
        Rows.dueProduct("as it was", x, 3, 5);
        Check.due("slide", x.slide(1, 4), 0);
        Rows.dueProduct("slide of too few", x);
        Check.due("slide", x.slide(1, 64), 0);
    }

    private static void carry() {
        ConvolutionBench x = Rows.bench();
        Rows.spoil(x);
        Check.due("carry, nothing made", x.carry(0, 10), STATE);
        Rows.fill(x, 0, Rows.INTS, 99, 0, 12);
        Rows.fill(x, 1, Rows.INTS, 1);
        Rows.fill(x, 2, Rows.BYTES, 0, 0, 0);
        Rows.fill(x, 3, Rows.BYTES, 0, -1);
        Check.due("multiply", x.multiply(0, 1, 0), 3);
        Rows.spoil(x);
        Check.due("carry", x.carry(0, 10), 4);
        Check.due("lane", x.kind(0, 0), Rows.INTS);
        Rows.dueRow("99 + 1200", x, 0, 9, 9, 2, 1);
        Check.due("THE PRODUCT stays", x.told(2), 3);
        Check.due("carry", x.carry(5, 10000), 3);
        Rows.dueRow("as it is", x, 5, 99, 0, 12);
        Rows.spoil(x);
        Check.due("carry, UNKNOWN", x.carry(12, 1), UNKNOWN);
        Check.due("carry, UNKNOWN", x.carry(-1, 10), UNKNOWN);
        Check.due("carry, OUTSIDE", x.carry(0, 1), OUTSIDE);
        Check.due("carry, OUTSIDE", x.carry(0, 0), OUTSIDE);
        Check.due("carry, OUTSIDE", x.carry(0, -10), OUTSIDE);
        Check.due("carry, OUTSIDE", x.carry(0, 10001), OUTSIDE);
        Check.due("carry names no FAULT", x.fault(), Rows.INDEX);
        Check.due("multiply", x.multiply(2, 2, 0), 5);
        Check.due("carry of 0", x.carry(0, 2), 1);
        Rows.dueRow("one digit at least", x, 0, 0);
        Check.due("multiply", x.multiply(3, 1, 0), 2);
        Check.due("carry, the last one below 0", x.carry(0, 10), STATE);
        Check.due("reverse", x.reverse(3), 1);
        Check.due("multiply", x.multiply(3, 1, 0), 2);
        Check.due("carry, the first one below 0", x.carry(0, 10), STATE);
        Check.due("OUTSIDE ahead of STATE", x.carry(0, 1), OUTSIDE);
        Rows.dueRow("as it was", x, 0, 0);
    }

    /** 64 digits are taken, one more is not. */
    private static void carryFull() {
        ConvolutionBench x = Rows.bench();
        long[] ones = new long[64];
        java.util.Arrays.fill(ones, 1);
        Rows.fill(x, 0, Rows.BYTES, ones);
        Rows.fill(x, 1, Rows.BYTES, 1);
        Check.due("multiply", x.multiply(0, 1, 0), 64);
        Check.due("carry", x.carry(2, 2), 64);
        Rows.dueRow("2^64 - 1", x, 2, ones);
        ones[0] = 2;
        Rows.fill(x, 0, Rows.BYTES, ones);
        Check.due("multiply", x.multiply(0, 1, 0), 64);
        Rows.spoil(x);
        Check.due("2^64 has 65 digits", x.carry(2, 2), FULL);
        Check.due("carry names no FAULT", x.fault(), Rows.INDEX);
        Check.due("the place is as it was", x.at(2, 0), 1);
        Check.due("to 3 it has room", x.carry(2, 3), 64);
        long[] zeros = new long[64];
        Rows.fill(x, 3, Rows.BYTES, zeros);
        Check.due("multiply", x.multiply(3, 3, 0), 127);
        Check.due("entries that are 0 are no digits", x.carry(2, 2), 1);
        zeros[32] = 1;
        Rows.fill(x, 3, Rows.BYTES, zeros);
        Check.due("multiply", x.multiply(3, 3, 0), 127);
        Check.due("digit 64 is one too many", x.carry(2, 2), FULL);
    }

    private static void carryOfGreatEntries() {
        Random random = new Random(21);
        for (int round = 0; round < 300; round++) {
            ConvolutionBench x = Rows.bench();
            long[] a = new long[1 + random.nextInt(round % 2 == 0 ? 10 : 40)];
            for (int i = 0; i < a.length; i++) {
                a[i] = random.nextInt() & Integer.MAX_VALUE;
            }
            Rows.fill(x, 0, Rows.INTS, a);
            int base = round % 3 == 0 ? 2 + random.nextInt(9) : 2 + random.nextInt(9999);
            boolean around = random.nextBoolean();
            int n = 1 + random.nextInt(8);
            int count = around ? x.circular(0, 0, n) : x.multiply(0, 0, 2);
            BigInteger whole = BigInteger.ZERO;
            for (int k = count - 1; k >= 0; k--) {
                BigInteger entry = BigInteger.valueOf(x.high(k)).shiftLeft(64).add(unsigned(x.low(k)));
                whole = whole.multiply(BigInteger.valueOf(base)).add(entry);
            }
            dueDigits(x, whole, base);
        }
    }

    private static void dueDigits(ConvolutionBench x, BigInteger whole, int base) {
        BigInteger left = whole;
        java.util.ArrayList<Long> digits = new java.util.ArrayList<>();
        do {
            BigInteger[] both = left.divideAndRemainder(BigInteger.valueOf(base));
            digits.add(both[1].longValue());
            left = both[0];
        } while (left.signum() != 0);
        int count = digits.size();
        Check.due("carry to " + base, x.carry(1, base), count > 64 ? FULL : count);
        for (int i = 0; i < count && count <= 64; i++) {
            Check.due("digit", x.at(1, i), digits.get(i));
        }
    }

    private static void cost() {
        for (int n = 1; n <= 64; n++) {
            ConvolutionBench x = Rows.bench();
            for (int m = 1; m <= 64; m++) {
                int length = 1;
                int exponent = 0;
                while (length < n + m - 1) {
                    length *= 2;
                    exponent++;
                }
                int one = 3 * length * exponent / 2 + 2 * length;
                int three = 3 * one + 6 * (n + m - 1);
                Check.due("cost 0", x.cost(0, n, m), n * m);
                Check.due("cost 1", x.cost(1, n, m), one);
                Check.due("cost 2", x.cost(2, n, m), three);
                Check.due("plan", x.plan(n, m), three < n * m ? 2 : 0);
            }
        }
        ConvolutionBench x = Rows.bench();
        Rows.spoil(x);
        Check.due("cost(1, 1, 1)", x.cost(1, 1, 1), 2);
        Check.due("cost(2, 1, 1)", x.cost(2, 1, 1), 12);
        Check.due("cost(1, 1, 2)", x.cost(1, 1, 2), 7);
        Check.due("cost(2, 64, 64)", x.cost(2, 64, 64), 5562);
        for (int way : new int[] {-1, 3, Integer.MAX_VALUE}) {
            Check.due("cost, UNKNOWN", x.cost(way, 0, 0), UNKNOWN);
        }
        for (int n : new int[] {0, -1, 65, Integer.MIN_VALUE, Integer.MAX_VALUE}) {
            for (int way = 0; way < 3; way++) {
                Check.due("cost, OUTSIDE", x.cost(way, n, 1), OUTSIDE);
                Check.due("cost, OUTSIDE", x.cost(way, 1, n), OUTSIDE);
            }
            Check.due("plan, OUTSIDE", x.plan(n, 1), OUTSIDE);
            Check.due("plan, OUTSIDE", x.plan(1, n), OUTSIDE);
        }
        Check.due("they name no FAULT", x.fault(), Rows.INDEX);
    }

    private static void dueWide(String what, ConvolutionBench x, int k, BigInteger want) {
        Check.due(what + ": high", x.high(k), want.shiftRight(64).longValue());
        Check.due(what + ": low", x.low(k), want.longValue());
    }

    private static BigInteger unsigned(long bits) {
        return new BigInteger(Long.toUnsignedString(bits));
    }

    private static long[] randomEntries(Random random, int style) {
        long[] entries = new long[1 + random.nextInt(64)];
        for (int i = 0; i < entries.length; i++) {
            switch (style) {
                case 0: entries[i] = random.nextInt(7) - 3; break;
                case 1: entries[i] = (byte) random.nextInt(); break;
                case 2: entries[i] = (short) random.nextInt(); break;
                case 3: entries[i] = random.nextBoolean() ? MIN : Integer.MAX_VALUE; break;
                default: entries[i] = random.nextInt(); break;
            }
        }
        return entries;
    }

    private static BigInteger greatest(long[] entries) {
        long greatest = 0;
        for (long v : entries) {
            greatest = Math.max(greatest, Math.abs(v));
        }
        return BigInteger.valueOf(greatest);
    }

    private static BigInteger[] product(long[] a, long[] b) {
        BigInteger[] product = new BigInteger[a.length + b.length - 1];
        java.util.Arrays.fill(product, BigInteger.ZERO);
        for (int i = 0; i < a.length; i++) {
            for (int j = 0; j < b.length; j++) {
                product[i + j] = product[i + j].add(BigInteger.valueOf(a[i] * b[j]));
            }
        }
        return product;
    }

    private static long[] turned(long[] a) {
        long[] turned = new long[a.length];
        for (int i = 0; i < a.length; i++) {
            turned[i] = a[a.length - 1 - i];
        }
        return turned;
    }
}
