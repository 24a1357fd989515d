import java.lang.reflect.Array;
import java.math.BigInteger;
import java.util.ArrayList;
import java.util.Arrays;
import java.util.List;
import java.util.Objects;
import java.util.function.LongSupplier;

/**
 * The document once more, written as unlike the class as can be: rows are real arrays, faults are what the machine
 * throws, numbers are BigIntegers and real doubles.
 */
final class Model {
    private static final int UNKNOWN = -1, OUTSIDE = -2, STATE = -3, FULL = -4, NONE = -9;
    private static final Class<?>[] LANES = {byte.class, short.class, int.class, long.class, double.class};

    private static final class Refused extends RuntimeException {
        private static final long serialVersionUID = 1L;
        final int answer;

        Refused(int answer) {
            this.answer = answer;
        }
    }

    private final Object[] places = new Object[12];
    private int fault = 0;
    private int spectrumPrime = NONE;
    private long[] spectrum = {};
    private BigInteger[] product = {};
    private long[] residues = {};
    private long[] rests = {};
    private int[] fits = {};
    private double[] reals = {};

    // ---- refusals and faults

    private static void refuse(boolean isSo, int answer) {
        if (isSo) throw new Refused(answer);
    }

    private static void needPlace(int... ps) {
        for (int p : ps) refuse(p < 0 || p > 11, UNKNOWN);
    }

    private static void needPrime(int prime) {
        refuse(prime < 0 || prime > 2, UNKNOWN);
    }

    private static void needCount(int n) {
        refuse(n < 1 || n > 64, OUTSIDE);
    }

    private static int asked(LongSupplier act) {
        try {
            return (int) act.getAsLong();
        } catch (Refused r) {
            return r.answer;
        }
    }

    private long guarded(boolean isLong, LongSupplier act) {
        fault = 0;
        try {
            return act.getAsLong();
        } catch (Refused r) {
            return isLong ? 0 : r.answer;
        } catch (NullPointerException e) {
            fault = 1;
        } catch (ClassCastException e) {
            fault = 2;
        } catch (IndexOutOfBoundsException e) {
            fault = 3;
        } catch (NegativeArraySizeException e) {
            fault = 4;
        } catch (ArithmeticException e) {
            fault = 5;
        }
        return isLong ? 0 : -10 - fault;
    }

    private int guarded(LongSupplier act) {
        return (int) guarded(false, act);
    }

    // ---- rows

    private static int laneOf(Object row) {
        return Arrays.asList(LANES).indexOf(row.getClass().getComponentType());
    }

    private static long told(Object row, int i) {
        if (row instanceof double[]) return Double.doubleToLongBits(((double[]) row)[i]);
        return Array.getLong(row, i);
    }

    private static void become(Object row, int i, long v) {
        switch (laneOf(row)) {
            case 0: ((byte[]) row)[i] = (byte) v; break;
            case 1: ((short[]) row)[i] = (short) v; break;
            case 2: ((int[]) row)[i] = (int) v; break;
            case 3: ((long[]) row)[i] = v; break;
            default: ((double[]) row)[i] = Double.longBitsToDouble(v); break;
        }
    }

    private static long[] entries(Object row, int widest) {
        if (laneOf(row) > widest) throw new ClassCastException();
        long[] entries = new long[Array.getLength(row)];
        for (int i = 0; i < entries.length; i++) entries[i] = told(row, i);
        return entries;
    }

    private long[][] pair(int a, int b, int widest) {
        Objects.requireNonNull(places[a]);
        Objects.requireNonNull(places[b]);
        return new long[][] {entries(places[a], widest), entries(places[b], widest)};
    }

    int row(int p, int lane, int n) {
        return guarded(() -> {
            needPlace(p);
            refuse(lane < 0 || lane > 4 || n == 0 || n > 64, OUTSIDE);
            places[p] = Array.newInstance(LANES[lane], n);
            return 1;
        });
    }

    int share(int p, int from) {
        return asked(() -> {
            needPlace(p, from);
            places[p] = places[from];
            return 1;
        });
    }

    int kind(int p, int what) {
        return asked(() -> {
            needPlace(p);
            refuse(what < 0 || what > 1, OUTSIDE);
            if (places[p] == null) return NONE;
            return what == 0 ? laneOf(places[p]) : Array.getLength(places[p]);
        });
    }

    int put(int p, int i, long v) {
        return guarded(() -> {
            needPlace(p);
            become(places[p], i, v);
            return 1;
        });
    }

    long at(int p, int i) {
        return guarded(true, () -> {
            needPlace(p);
            return told(Objects.requireNonNull(places[p]), i);
        });
    }

    long as(int p, int i, int lane) {
        return guarded(true, () -> {
            needPlace(p);
            refuse(lane < 0 || lane > 4, OUTSIDE);
            if (places[p] != null && laneOf(places[p]) != lane) throw new ClassCastException();
            return told(Objects.requireNonNull(places[p]), i);
        });
    }

    private int moved(int p, boolean turned, long by) {
        return guarded(() -> {
            needPlace(p);
            Object row = Objects.requireNonNull(places[p]);
            int n = Array.getLength(row);
            long[] old = entries(row, 4);
            for (int i = 0; i < n; i++) become(row, turned ? n - 1 - i : (int) Math.floorMod(i + by, (long) n), old[i]);
            return 1;
        });
    }

    int reverse(int p) {
        return moved(p, true, 0);
    }

    int shift(int p, int k) {
        return moved(p, false, k);
    }

    // ---- transforms

    private static BigInteger big(long x) {
        return BigInteger.valueOf(x);
    }

    private static BigInteger prime(int prime) {
        return big(Rows.PRIMES[prime]);
    }

    private static BigInteger rootOf(int prime, int n) {
        return big(3).modPow(big((Rows.PRIMES[prime] - 1) / n), prime(prime));
    }

    private static long[] sums(long[] entries, BigInteger w, int prime) {
        long p = Rows.PRIMES[prime];
        int n = entries.length;
        long[] powers = new long[n];
        powers[0] = 1;
        for (int i = 1; i < n; i++) powers[i] = big(powers[i - 1]).multiply(w).mod(prime(prime)).longValue();
        long[] values = new long[n];
        for (int j = 0; j < n; j++) {
            for (int i = 0; i < n; i++) {
                values[j] = (values[j] + Math.floorMod(entries[i], p) * powers[i * j % n]) % p;
            }
        }
        return values;
    }

    long root(int prime, int n) {
        return guarded(true, () -> {
            needPrime(prime);
            needCount(n);
            if ((Rows.PRIMES[prime] - 1) % n != 0) throw new ArithmeticException();
            return rootOf(prime, n).longValue();
        });
    }

    int transform(int p, int prime) {
        return guarded(() -> {
            needPlace(p);
            needPrime(prime);
            long[] x = entries(Objects.requireNonNull(places[p]), 3);
            refuse((Rows.PRIMES[prime] - 1) % x.length != 0, STATE);
            spectrum = sums(x, rootOf(prime, x.length), prime);
            spectrumPrime = prime;
            return x.length;
        });
    }

    int times(int p) {
        return guarded(() -> {
            needPlace(p);
            long[] x = entries(Objects.requireNonNull(places[p]), 3);
            refuse(x.length != spectrum.length, STATE);
            long[] values = sums(x, rootOf(spectrumPrime, x.length), spectrumPrime);
            for (int j = 0; j < x.length; j++) spectrum[j] = spectrum[j] * values[j] % Rows.PRIMES[spectrumPrime];
            return x.length;
        });
    }

    long value(int i) {
        return i >= 0 && i < spectrum.length ? spectrum[i] : -1;
    }

    int inverse(int p) {
        return asked(() -> {
            needPlace(p);
            refuse(spectrum.length == 0, STATE);
            int n = spectrum.length;
            BigInteger modulus = prime(spectrumPrime);
            long[] x = sums(spectrum, rootOf(spectrumPrime, n).modInverse(modulus), spectrumPrime);
            BigInteger share = big(n).modInverse(modulus);
            for (int i = 0; i < n; i++) x[i] = big(x[i]).multiply(share).mod(modulus).longValue();
            places[p] = x;
            return n;
        });
    }

    // ---- exact products

    private static BigInteger[] zeros(int n) {
        BigInteger[] zeros = new BigInteger[n];
        Arrays.fill(zeros, BigInteger.ZERO);
        return zeros;
    }

    private static BigInteger[] spread(long[] x, long[] y, int n) {
        BigInteger[] sums = zeros(n);
        for (int i = 0; i < x.length; i++) {
            for (int j = 0; j < y.length; j++) sums[(i + j) % n] = sums[(i + j) % n].add(big(x[i] * y[j]));
        }
        return sums;
    }

    private static BigInteger greatest(long[] x) {
        return big(Arrays.stream(x).map(Math::abs).max().getAsLong());
    }

    int multiply(int a, int b, int way) {
        return guarded(() -> {
            needPlace(a, b);
            refuse(way < 0 || way > 2, OUTSIDE);
            long[][] xy = pair(a, b, 2);
            BigInteger bound = big(2L * Math.min(xy[0].length, xy[1].length)).multiply(greatest(xy[0])).multiply(greatest(xy[1]));
            refuse(way == 1 && bound.compareTo(prime(0)) >= 0, STATE);
            product = spread(xy[0], xy[1], xy[0].length + xy[1].length - 1);
            return product.length;
        });
    }

    int circular(int a, int b, int n) {
        return guarded(() -> {
            needPlace(a, b);
            needCount(n);
            long[][] xy = pair(a, b, 2);
            product = spread(xy[0], xy[1], n);
            return n;
        });
    }

    int correlate(int a, int b) {
        return guarded(() -> {
            needPlace(a, b);
            long[][] xy = pair(a, b, 2);
            int n = xy[0].length;
            int m = xy[1].length;
            BigInteger[] sums = zeros(n + m - 1);
            for (int i = 0; i < sums.length; i++) {
                for (int j = 0; j < m; j++) {
                    int at = j + i - (m - 1);
                    if (at >= 0 && at < n) sums[i] = sums[i].add(big(xy[0][at] * xy[1][j]));
                }
            }
            product = sums;
            return sums.length;
        });
    }

    int slide(int a, int w) {
        return guarded(() -> {
            needPlace(a);
            needCount(w);
            long[] x = entries(Objects.requireNonNull(places[a]), 3);
            BigInteger[] sums = zeros(Math.max(0, x.length - w + 1));
            for (int i = 0; i < sums.length; i++) {
                for (int j = 0; j < w; j++) sums[i] = sums[i].add(big(x[i + j]));
            }
            product = sums;
            return sums.length;
        });
    }

    long high(int i) {
        return i >= 0 && i < product.length ? product[i].shiftRight(64).longValue() : 0;
    }

    long low(int i) {
        return i >= 0 && i < product.length ? product[i].longValue() : 0;
    }

    int carry(int p, int base) {
        return asked(() -> {
            needPlace(p);
            refuse(base < 2 || base > 10000, OUTSIDE);
            refuse(product.length == 0 || Arrays.stream(product).anyMatch(e -> e.signum() < 0), STATE);
            BigInteger whole = BigInteger.ZERO;
            for (int k = product.length - 1; k >= 0; k--) whole = whole.multiply(big(base)).add(product[k]);
            List<Integer> digits = new ArrayList<>();
            for (BigInteger left = whole; left.signum() > 0 || digits.isEmpty(); left = left.divide(big(base))) {
                digits.add(left.mod(big(base)).intValue());
            }
            refuse(digits.size() > 64, FULL);
            places[p] = digits.stream().mapToInt(Integer::intValue).toArray();
            return digits.size();
        });
    }

    int cost(int way, int n, int m) {
        return asked(() -> {
            refuse(way < 0 || way > 2, UNKNOWN);
            needCount(n);
            needCount(m);
            if (way == 0) return n * m;
            int l = 32 - Integer.numberOfLeadingZeros(n + m - 2);
            int one = 3 * (1 << l) * l / 2 + 2 * (1 << l);
            return way == 1 ? one : 3 * one + 6 * (n + m - 1);
        });
    }

    int plan(int n, int m) {
        return asked(() -> {
            needCount(n);
            needCount(m);
            return cost(0, n, m) <= cost(2, n, m) ? 0 : 2;
        });
    }

    // ---- over a prime

    private static long[] over(long[] x, int prime) {
        return Arrays.stream(x).map(v -> Math.floorMod(v, Rows.PRIMES[prime])).toArray();
    }

    private static long[] cut(long[] x, long[] y, int n, int prime) {
        long[] result = new long[n];
        for (int i = 0; i < x.length; i++) {
            for (int j = 0; j < y.length && i + j < n; j++) result[i + j] = (result[i + j] + x[i] * y[j]) % Rows.PRIMES[prime];
        }
        return result;
    }

    private static long inverse(long x, int prime) {
        return big(x).modInverse(prime(prime)).longValue();
    }

    int power(int a, int prime, int k, int n) {
        return guarded(() -> {
            needPlace(a);
            needPrime(prime);
            refuse(k < 0 || k > 1000, OUTSIDE);
            needCount(n);
            long[] x = over(entries(Objects.requireNonNull(places[a]), 3), prime);
            long[] result = new long[n];
            result[0] = 1;
            for (int step = 0; step < k; step++) result = cut(result, x, n, prime);
            residues = result;
            return n;
        });
    }

    int series(int a, int prime, int n) {
        return guarded(() -> {
            needPlace(a);
            needPrime(prime);
            needCount(n);
            long[] x = over(entries(Objects.requireNonNull(places[a]), 3), prime);
            long scale = inverse(x[0], prime);
            long[] result = new long[n];
            // each entry is set so that the product's entry comes out as it must
            for (int k = 0; k < n; k++) {
                long now = cut(result, x, k + 1, prime)[k];
                result[k] = Math.floorMod((k == 0 ? 1 : 0) - now, Rows.PRIMES[prime]) * scale % Rows.PRIMES[prime];
            }
            residues = result;
            return n;
        });
    }

    int divide(int a, int b, int prime) {
        return guarded(() -> {
            needPlace(a, b);
            needPrime(prime);
            long[][] xy = pair(a, b, 3);
            long[] left = over(xy[0], prime);
            long[] by = over(xy[1], prime);
            int degree = by.length - 1;
            while (degree > 0 && by[degree] == 0) degree--;
            long scale = inverse(by[degree], prime);
            long[] quotient = new long[Math.max(0, left.length - degree)];
            long p = Rows.PRIMES[prime];
            for (int top = left.length - 1; top >= degree; top--) {
                long factor = left[top] * scale % p;
                quotient[top - degree] = factor;
                for (int j = 0; j <= degree; j++) left[top - j] = Math.floorMod(left[top - j] - factor * by[degree - j], p);
            }
            residues = quotient;
            rests = Arrays.copyOf(left, degree);
            return quotient.length;
        });
    }

    int evaluate(int a, int points, int prime) {
        return guarded(() -> {
            needPlace(a, points);
            needPrime(prime);
            long[][] xy = pair(a, points, 3);
            long[] result = new long[xy[1].length];
            for (int i = 0; i < result.length; i++) {
                BigInteger sum = BigInteger.ZERO;
                BigInteger power = BigInteger.ONE;
                for (long v : xy[0]) {
                    sum = sum.add(power.multiply(big(v)));
                    power = power.multiply(big(xy[1][i])).mod(prime(prime));
                }
                result[i] = sum.mod(prime(prime)).longValue();
            }
            residues = result;
            return result.length;
        });
    }

    /** Newton's way: one point after the other, the new term is 0 at all earlier ones. */
    int interpolate(int points, int values, int prime) {
        return guarded(() -> {
            needPlace(points, values);
            needPrime(prime);
            long[][] xy = pair(points, values, 3);
            refuse(xy[0].length != xy[1].length, STATE);
            long p = Rows.PRIMES[prime];
            long[] xs = over(xy[0], prime);
            long[] ys = over(xy[1], prime);
            long[] result = new long[xs.length];
            long[] term = {1};
            for (int i = 0; i < xs.length; i++) {
                long factor = Math.floorMod(ys[i] - valueAt(result, xs[i], p), p) * inverse(valueAt(term, xs[i], p), prime) % p;
                for (int k = 0; k < term.length; k++) result[k] = (result[k] + factor * term[k]) % p;
                term = cut(term, new long[] {p - xs[i], 1}, term.length + 1, prime);
            }
            residues = result;
            return result.length;
        });
    }

    private static long valueAt(long[] x, long point, long p) {
        long value = 0;
        for (int k = x.length - 1; k >= 0; k--) value = (value * point + x[k]) % p;
        return value;
    }

    long residue(int i) {
        return i >= 0 && i < residues.length ? residues[i] : -1;
    }

    long rest(int i) {
        return i >= 0 && i < rests.length ? rests[i] : -1;
    }

    // ---- fits, doubles

    int match(int text, int pattern, long wild) {
        return guarded(() -> {
            needPlace(text, pattern);
            long[][] xy = pair(text, pattern, 3);
            List<Integer> found = new ArrayList<>();
            for (int k = 0; k <= xy[0].length - xy[1].length; k++) {
                boolean isFit = true;
                for (int i = 0; i < xy[1].length; i++) {
                    isFit &= xy[1][i] == wild || xy[0][k + i] == wild || xy[1][i] == xy[0][k + i];
                }
                if (isFit) found.add(k);
            }
            fits = found.stream().mapToInt(Integer::intValue).toArray();
            return fits.length;
        });
    }

    int matchAt(int i) {
        return i >= 0 && i < fits.length ? fits[i] : NONE;
    }

    int real(int a, int b) {
        return guarded(() -> {
            needPlace(a, b);
            Object x = Objects.requireNonNull(places[a]);
            Object y = Objects.requireNonNull(places[b]);
            double[] sums = new double[Array.getLength(x) + Array.getLength(y) - 1];
            for (int k = 0; k < sums.length; k++) {
                for (int i = 0; i < Array.getLength(x); i++) {
                    int j = k - i;
                    if (j >= 0 && j < Array.getLength(y)) sums[k] = sums[k] + asDouble(x, i) * asDouble(y, j);
                }
            }
            reals = sums;
            return sums.length;
        });
    }

    private static double asDouble(Object row, int i) {
        return row instanceof double[] ? ((double[]) row)[i] : (double) Array.getLong(row, i);
    }

    long realAt(int i) {
        return Double.doubleToLongBits(i >= 0 && i < reals.length ? reals[i] : Double.NaN);
    }

    int fault() {
        return fault;
    }

    int told(int what) {
        int[] counts = {spectrum.length, spectrumPrime, product.length, residues.length, rests.length, fits.length, reals.length};
        return what >= 0 && what < counts.length ? counts[what] : OUTSIDE;
    }
}
