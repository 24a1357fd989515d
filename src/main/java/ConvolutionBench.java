/**
 * A bench for rows of numbers and their products. The promises that it keeps stand in the document DOC.md.
 *
 * Two habits run through the file. A call tests everything that it may be refused for before it changes anything.
 * And the rows that a call only works in are made once, in constructors: the room for all calls is narrow.
 */
public final class ConvolutionBench {
    public static final int UNKNOWN = -1, OUTSIDE = -2, STATE = -3, FULL = -4, NONE = -9;

    private static final int NULL = 1, CAST = 2, INDEX = 3, SIZE = 4, ZERO = 5;
    private static final int BYTES = 0, SHORTS = 1, INTS = 2, LONGS = 3, DOUBLES = 4;
    private static final int PLACES = 12;
    private static final int PRIMES = 3;
    private static final int MOST_ENTRIES = 64;
    private static final int MOST_PRODUCTS = 2 * MOST_ENTRIES - 1;
    private static final int MOST_POWER = 1000;
    private static final int MOST_BASE = 10000;
    private static final long PRIME_0 = 998244353L, PRIME_1 = 1004535809L, PRIME_2 = 469762049L;
    private static final long NOT_A_NUMBER = 0x7ff8000000000000L;

    private final Row[] places = new Row[PLACES];
    private final Prime[] primes = new Prime[PRIMES];
    private final Products products;
    private final Polynomials polynomials = new Polynomials();
    private final Doubles doubles = new Doubles();
    private final Shelf spectrum = new Shelf(MOST_ENTRIES);
    private final Shelf residues = new Shelf(MOST_ENTRIES);
    private final Shelf rests = new Shelf(MOST_ENTRIES);
    private final Shelf fits = new Shelf(MOST_ENTRIES);
    private final Shelf reals = new Shelf(MOST_PRODUCTS);
    private final long[] digits = new long[MOST_ENTRIES];
    private int spectrumPrime = NONE;
    private int latestFault = 0;

    public ConvolutionBench() {
        primes[0] = new Prime(PRIME_0);
        primes[1] = new Prime(PRIME_1);
        primes[2] = new Prime(PRIME_2);
        products = new Products(primes[0], primes[1], primes[2]);
    }

    // ---- 1 rows

    public int row(int p, int lane, int n) {
        latestFault = 0;
        if (!isPlace(p)) return UNKNOWN;
        if (!isLane(lane) || n == 0 || n > MOST_ENTRIES) return OUTSIDE;
        if (n < 0) return faulted(SIZE);
        places[p] = new Row(lane, n);
        return 1;
    }

    public int share(int p, int from) {
        if (!isPlace(p) || !isPlace(from)) return UNKNOWN;
        places[p] = places[from];
        return 1;
    }

    public int kind(int p, int what) {
        if (!isPlace(p)) return UNKNOWN;
        if (what != 0 && what != 1) return OUTSIDE;
        Row x = places[p];
        if (x == null) return NONE;
        return what == 0 ? x.lane : x.size();
    }

    public int put(int p, int i, long v) {
        latestFault = 0;
        if (!isPlace(p)) return UNKNOWN;
        Row x = places[p];
        if (x == null) return faulted(NULL);
        if (!x.has(i)) return faulted(INDEX);
        x.cells[i] = x.narrowed(v);
        return 1;
    }

    public long at(int p, int i) {
        latestFault = 0;
        if (!isPlace(p)) return 0L;
        return entryOf(places[p], i);
    }

    public long as(int p, int i, int lane) {
        latestFault = 0;
        if (!isPlace(p) || !isLane(lane)) return 0L;
        Row x = places[p];
        if (x != null && x.lane != lane) return faultedLong(CAST);
        return entryOf(x, i);
    }

    public int reverse(int p) {
        latestFault = 0;
        if (!isPlace(p)) return UNKNOWN;
        Row x = places[p];
        if (x == null) return faulted(NULL);
        x.flip(0, x.size());
        return 1;
    }

    public int shift(int p, int k) {
        latestFault = 0;
        if (!isPlace(p)) return UNKNOWN;
        Row x = places[p];
        if (x == null) return faulted(NULL);
        x.turn(k);
        return 1;
    }

    // ---- 2 transforms

    public long root(int prime, int n) {
        latestFault = 0;
        if (!isPrime(prime) || !isCount(n)) return 0L;
        if (!primes[prime].hasRoot(n)) return faultedLong(ZERO);
        return primes[prime].rootFor(n);
    }

    public int transform(int p, int prime) {
        latestFault = 0;
        if (!isPlace(p) || !isPrime(prime)) return UNKNOWN;
        Row x = places[p];
        if (x == null) return faulted(NULL);
        if (x.lane > LONGS) return faulted(CAST);
        if (!primes[prime].hasRoot(x.size())) return STATE;
        for (int j = 0; j < x.size(); j++) {
            spectrum.cells[j] = 1L;
        }
        spectrum.count = x.size();
        spectrumPrime = prime;
        polynomials.timesTransform(x, primes[prime], spectrum);
        return spectrum.count;
    }

    public int times(int p) {
        latestFault = 0;
        if (!isPlace(p)) return UNKNOWN;
        Row x = places[p];
        if (x == null) return faulted(NULL);
        if (x.lane > LONGS) return faulted(CAST);
        if (!isPrime(spectrumPrime) || x.size() != spectrum.count) return STATE;
        polynomials.timesTransform(x, primes[spectrumPrime], spectrum);
        return spectrum.count;
    }

    public long value(int i) {
        return spectrum.get(i, UNKNOWN);
    }

    public int inverse(int p) {
        if (!isPlace(p)) return UNKNOWN;
        if (!isPrime(spectrumPrime) || spectrum.count < 1) return STATE;
        Row x = new Row(LONGS, spectrum.count);
        polynomials.transformBack(spectrum, primes[spectrumPrime], x);
        places[p] = x;
        return x.size();
    }

    // ---- 3 exact products

    public int multiply(int a, int b, int way) {
        latestFault = 0;
        if (!isPlace(a) || !isPlace(b)) return UNKNOWN;
        if (!isWay(way)) return OUTSIDE;
        Row x = places[a];
        Row y = places[b];
        if (x == null || y == null) return faulted(NULL);
        if (x.lane > INTS || y.lane > INTS) return faulted(CAST);
        if (way == 1 && !Products.fitsOnePrime(x, y)) return STATE;
        if (way == 0) products.byPlainSums(x, y);
        if (way == 1) products.byOnePrime(x, y);
        if (way == 2) products.byThreePrimes(x, y);
        return products.count;
    }

    public int circular(int a, int b, int n) {
        latestFault = 0;
        if (!isPlace(a) || !isPlace(b)) return UNKNOWN;
        if (!isCount(n)) return OUTSIDE;
        Row x = places[a];
        Row y = places[b];
        if (x == null || y == null) return faulted(NULL);
        if (x.lane > INTS || y.lane > INTS) return faulted(CAST);
        products.around(x, y, n);
        return products.count;
    }

    public int correlate(int a, int b) {
        latestFault = 0;
        if (!isPlace(a) || !isPlace(b)) return UNKNOWN;
        Row x = places[a];
        Row y = places[b];
        if (x == null || y == null) return faulted(NULL);
        if (x.lane > INTS || y.lane > INTS) return faulted(CAST);
        products.alongside(x, y);
        return products.count;
    }

    public int slide(int a, int w) {
        latestFault = 0;
        if (!isPlace(a)) return UNKNOWN;
        if (!isCount(w)) return OUTSIDE;
        Row x = places[a];
        if (x == null) return faulted(NULL);
        if (x.lane > LONGS) return faulted(CAST);
        products.windows(x, w);
        return products.count;
    }

    public long high(int i) {
        return products.has(i) ? products.upper[i] : 0L;
    }

    public long low(int i) {
        return products.has(i) ? products.lower[i] : 0L;
    }

    public int carry(int p, int base) {
        if (!isPlace(p)) return UNKNOWN;
        if (base < 2 || base > MOST_BASE) return OUTSIDE;
        if (products.count == 0 || products.anyBelowZero()) return STATE;
        int count = products.digitsInto(digits, base);
        if (!isCount(count)) return FULL;
        Row x = new Row(INTS, count);
        for (int i = 0; i < count; i++) {
            x.cells[i] = digits[i];
        }
        places[p] = x;
        return count;
    }

    public int cost(int way, int n, int m) {
        if (!isWay(way)) return UNKNOWN;
        if (!isCount(n) || !isCount(m)) return OUTSIDE;
        return costOf(way, n, m);
    }

    public int plan(int n, int m) {
        if (!isCount(n) || !isCount(m)) return OUTSIDE;
        return costOf(2, n, m) < costOf(0, n, m) ? 2 : 0;
    }

    // ---- 4 over a prime

    public int power(int a, int prime, int k, int n) {
        latestFault = 0;
        if (!isPlace(a) || !isPrime(prime)) return UNKNOWN;
        if (k < 0 || k > MOST_POWER || !isCount(n)) return OUTSIDE;
        Row x = places[a];
        if (x == null) return faulted(NULL);
        if (x.lane > LONGS) return faulted(CAST);
        residues.count = n;
        polynomials.raise(x, primes[prime], k, residues);
        return n;
    }

    public int series(int a, int prime, int n) {
        latestFault = 0;
        if (!isPlace(a) || !isPrime(prime)) return UNKNOWN;
        if (!isCount(n)) return OUTSIDE;
        Row x = places[a];
        if (x == null) return faulted(NULL);
        if (x.lane > LONGS) return faulted(CAST);
        if (primes[prime].reduced(x.cells[0]) == 0L) return faulted(ZERO);
        residues.count = n;
        polynomials.invert(x, primes[prime], residues);
        return n;
    }

    public int divide(int a, int b, int prime) {
        latestFault = 0;
        if (!isPlace(a) || !isPlace(b) || !isPrime(prime)) return UNKNOWN;
        Row x = places[a];
        Row y = places[b];
        if (x == null || y == null) return faulted(NULL);
        if (x.lane > LONGS || y.lane > LONGS) return faulted(CAST);
        int degree = primes[prime].degreeOf(y);
        if (degree < 0) return faulted(ZERO);
        residues.count = Math.max(x.size() - degree, 0);
        rests.count = degree;
        polynomials.part(x, y, primes[prime], residues, rests);
        return residues.count;
    }

    public int evaluate(int a, int points, int prime) {
        latestFault = 0;
        if (!isPlace(a) || !isPlace(points) || !isPrime(prime)) return UNKNOWN;
        Row x = places[a];
        Row y = places[points];
        if (x == null || y == null) return faulted(NULL);
        if (x.lane > LONGS || y.lane > LONGS) return faulted(CAST);
        residues.count = y.size();
        polynomials.valuesAt(x, y, primes[prime], residues);
        return residues.count;
    }

    public int interpolate(int points, int values, int prime) {
        latestFault = 0;
        if (!isPlace(points) || !isPlace(values) || !isPrime(prime)) return UNKNOWN;
        Row x = places[points];
        Row y = places[values];
        if (x == null || y == null) return faulted(NULL);
        if (x.lane > LONGS || y.lane > LONGS) return faulted(CAST);
        if (x.size() != y.size()) return STATE;
        if (primes[prime].anyAlike(x)) return faulted(ZERO);
        residues.count = x.size();
        polynomials.through(x, y, primes[prime], residues);
        return residues.count;
    }

    public long residue(int i) {
        return residues.get(i, UNKNOWN);
    }

    public long rest(int i) {
        return rests.get(i, UNKNOWN);
    }

    // ---- 5 fits, doubles

    public int match(int text, int pattern, long wild) {
        latestFault = 0;
        if (!isPlace(text) || !isPlace(pattern)) return UNKNOWN;
        Row x = places[text];
        Row y = places[pattern];
        if (x == null || y == null) return faulted(NULL);
        if (x.lane > LONGS || y.lane > LONGS) return faulted(CAST);
        fits.count = 0;
        for (int k = 0; k + y.size() <= x.size(); k++) {
            if (isFit(x, y, k, wild)) {
                fits.cells[fits.count] = k;
                fits.count++;
            }
        }
        return fits.count;
    }

    public int matchAt(int i) {
        return (int) fits.get(i, NONE);
    }

    public int real(int a, int b) {
        latestFault = 0;
        if (!isPlace(a) || !isPlace(b)) return UNKNOWN;
        Row x = places[a];
        Row y = places[b];
        if (x == null || y == null) return faulted(NULL);
        reals.count = x.size() + y.size() - 1;
        doubles.product(x, y, reals);
        return reals.count;
    }

    public long realAt(int i) {
        return reals.get(i, NOT_A_NUMBER);
    }

    // ---- what is told

    public int fault() {
        return latestFault;
    }

    public int told(int what) {
        switch (what) {
            case 0: return spectrum.count;
            case 1: return spectrumPrime;
            case 2: return products.count;
            case 3: return residues.count;
            case 4: return rests.count;
            case 5: return fits.count;
            case 6: return reals.count;
            default: return OUTSIDE;
        }
    }

    // ---- what the calls share

    private int faulted(int kindOfFault) {
        latestFault = kindOfFault;
        return -10 - kindOfFault;
    }

    private long faultedLong(int kindOfFault) {
        latestFault = kindOfFault;
        return 0L;
    }

    private long entryOf(Row x, int i) {
        if (x == null) return faultedLong(NULL);
        if (!x.has(i)) return faultedLong(INDEX);
        return x.cells[i];
    }

    private static boolean isPlace(int p) {
        return p >= 0 && p < PLACES;
    }

    private static boolean isPrime(int prime) {
        return prime >= 0 && prime < PRIMES;
    }

    private static boolean isLane(int lane) {
        return lane >= BYTES && lane <= DOUBLES;
    }

    private static boolean isWay(int way) {
        return way >= 0 && way <= 2;
    }

    private static boolean isCount(int n) {
        return n >= 1 && n <= MOST_ENTRIES;
    }

    private static boolean isFit(Row text, Row pattern, int k, long wild) {
        for (int i = 0; i < pattern.size() && k + i < text.size(); i++) {
            long want = pattern.cells[i];
            long have = text.cells[k + i];
            if (want != have && want != wild && have != wild) return false;
        }
        return true;
    }

    private static int costOf(int way, int n, int m) {
        if (way == 0) return n * m;
        int exponent = exponentFor(n + m - 1);
        int length = 1 << exponent;
        int onePrime = 3 * length * exponent / 2 + 2 * length;
        return way == 1 ? onePrime : 3 * onePrime + 6 * (n + m - 1);
    }

    /** The exponent of the least power of two that is not below count (count is at most 127 here). */
    private static int exponentFor(int count) {
        int exponent = 0;
        while (exponent < 7 && (1 << exponent) < count) {
            exponent++;
        }
        return exponent;
    }

    /** A ROW. Entries of all LANES are kept as they are told: doubles cannot be had from bits without reckoning. */
    private static final class Row {
        final int lane;
        final long[] cells;

        Row(int lane, int n) {
            this.lane = lane;
            this.cells = new long[n];
        }

        int size() {
            return cells.length;
        }

        boolean has(int i) {
            return i >= 0 && i < cells.length;
        }

        long narrowed(long v) {
            switch (lane) {
                case BYTES: return (byte) v;
                case SHORTS: return (short) v;
                case INTS: return (int) v;
                case LONGS: return v;
                default: return Doubles.isNone(v) ? NOT_A_NUMBER : v;
            }
        }

        /** Turns the order of the entries from .. to - 1 round. */
        void flip(int from, int to) {
            for (int i = Math.max(from, 0), j = Math.min(to, cells.length) - 1; i < j; i++, j--) {
                long kept = cells[i];
                cells[i] = cells[j];
                cells[j] = kept;
            }
        }

        /** Three flips move every entry k places on without a second row. */
        void turn(int k) {
            if (cells.length == 0) return;
            int on = Math.floorMod(k, cells.length);
            flip(0, cells.length);
            flip(0, on);
            flip(on, cells.length);
        }

        long greatestSize() {
            long greatest = 0L;
            for (int i = 0; i < cells.length; i++) {
                greatest = Math.max(greatest, Math.abs(cells[i]));
            }
            return greatest;
        }
    }

    /** Numbers that a call has made: the first count cells are told. */
    private static final class Shelf {
        final long[] cells;
        int count = 0;

        Shelf(int most) {
            cells = new long[most];
        }

        long get(int i, long missing) {
            return i >= 0 && i < count ? cells[i] : missing;
        }
    }

    /** A whole number of 128 bits with its sign: sums of products outgrow a long. */
    private static final class Wide {
        private static final long LOWER_HALF = 0xffffffffL;
        long upper = 0L;
        long lower = 0L;

        void clear() {
            upper = 0L;
            lower = 0L;
        }

        void add(long x) {
            addPair(x >> 63, x);
        }

        void addPair(long upperPart, long lowerPart) {
            long sum = lower + lowerPart;
            long over = ((lower & lowerPart) | ((lower | lowerPart) & ~sum)) >>> 63;
            lower = sum;
            upper = upper + upperPart + over;
        }

        /** Adds x times y, where x has at most 31 bits and y, not below 0, at most 62. */
        void addProduct(long x, long y) {
            long upperPart = x * (y >>> 32);
            addPair(upperPart >> 32, upperPart << 32);
            add(x * (y & LOWER_HALF));
        }

        /** Divides this, which is not below 0, by a base, and answers what is left. */
        long takeDigit(int base) {
            if (base < 2) return 0L;
            long left = upper % base;
            upper = upper / base;
            long middle = (left << 32) | (lower >>> 32);
            long last = ((middle % base) << 32) | (lower & LOWER_HALF);
            lower = ((middle / base) << 32) | (last / base);
            return last % base;
        }
    }

    /** Reckoning over a PRIME, with numbers from 0 to the modulus less 1. */
    private static final class Prime {
        final long modulus;

        Prime(long modulus) {
            this.modulus = modulus;
        }

        long reduced(long x) {
            return Math.floorMod(x, modulus);
        }

        long product(long x, long y) {
            return x * y % modulus;
        }

        long sum(long x, long y) {
            long whole = x + y;
            return whole >= modulus ? whole - modulus : whole;
        }

        long difference(long x, long y) {
            return x >= y ? x - y : x - y + modulus;
        }

        long raised(long x, long exponent) {
            long result = 1L;
            long square = x;
            for (long left = exponent; left > 0L; left >>= 1) {
                if ((left & 1L) != 0L) result = product(result, square);
                square = product(square, square);
            }
            return result;
        }

        long reciprocal(long x) {
            return raised(x, modulus - 2L);
        }

        boolean hasRoot(int n) {
            return n > 0 && (modulus - 1L) % n == 0L;
        }

        /** The ROOT for n; n is one that hasRoot() has. */
        long rootFor(int n) {
            return n > 0 ? raised(3L, (modulus - 1L) / n) : 1L;
        }

        void load(Row x, long[] target) {
            for (int i = 0; i < x.size() && i < target.length; i++) {
                target[i] = reduced(x.cells[i]);
            }
        }

        long valueAt(long[] coefficients, int count, long point) {
            long value = 0L;
            for (int i = Math.min(count, coefficients.length) - 1; i >= 0; i--) {
                value = sum(product(value, point), coefficients[i]);
            }
            return value;
        }

        /** The degree of a ROW as a polynomial; -1: it is 0. */
        int degreeOf(Row x) {
            int degree = x.size() - 1;
            while (degree >= 0 && reduced(x.cells[degree]) == 0L) {
                degree--;
            }
            return degree;
        }

        boolean anyAlike(Row x) {
            for (int i = 0; i < x.size(); i++) {
                long one = reduced(x.cells[i]);
                for (int j = 0; j < i; j++) {
                    if (reduced(x.cells[j]) == one) return true;
                }
            }
            return false;
        }
    }

    /** Products of two ROWS over a PRIME by transforms whose length is a power of two. */
    private static final class FastProduct {
        final Prime prime;
        final long[] result = new long[2 * MOST_ENTRIES];
        private final long[] other = new long[2 * MOST_ENTRIES];

        FastProduct(Prime prime) {
            this.prime = prime;
        }

        void run(Row x, Row y) {
            int length = 1 << exponentFor(x.size() + y.size() - 1);
            long turn = prime.rootFor(length);
            for (int i = 0; i < length; i++) {
                result[i] = 0L;
                other[i] = 0L;
            }
            prime.load(x, result);
            prime.load(y, other);
            spread(result, length, turn);
            spread(other, length, turn);
            for (int i = 0; i < length; i++) {
                result[i] = prime.product(result[i], other[i]);
            }
            spread(result, length, prime.reciprocal(turn));
            long share = prime.reciprocal(length);
            for (int i = 0; i < length; i++) {
                result[i] = prime.product(result[i], share);
            }
        }

        /** THE TRANSFORM in place, by a root of the given length. */
        private void spread(long[] cells, int length, long turn) {
            swapByBits(cells, length);
            for (int half = 1; half < length; half *= 2) {
                long step = prime.raised(turn, length / (2 * half));
                for (int start = 0; start < length; start += 2 * half) {
                    joinHalves(cells, start, half, step);
                }
            }
        }

        private void joinHalves(long[] cells, int start, int half, long step) {
            long factor = 1L;
            for (int i = start; i < start + half; i++) {
                long one = cells[i];
                long two = prime.product(cells[i + half], factor);
                cells[i] = prime.sum(one, two);
                cells[i + half] = prime.difference(one, two);
                factor = prime.product(factor, step);
            }
        }

        /** Joining halves in place needs each cell where the bits of its index, read backwards, point. */
        private static void swapByBits(long[] cells, int length) {
            int mirror = 0;
            for (int i = 0; i < length; i++) {
                if (i < mirror) {
                    long kept = cells[i];
                    cells[i] = cells[mirror];
                    cells[mirror] = kept;
                }
                int bit = length >> 1;
                while (bit > 0 && (mirror & bit) != 0) {
                    mirror -= bit;
                    bit >>= 1;
                }
                mirror += bit;
            }
        }
    }

    /** THE PRODUCT, and the ways to it. */
    private static final class Products {
        final long[] upper = new long[MOST_PRODUCTS];
        final long[] lower = new long[MOST_PRODUCTS];
        int count = 0;
        private final Wide sum = new Wide();
        private final FastProduct over0;
        private final FastProduct over1;
        private final FastProduct over2;
        private final long inverse0Over1;
        private final long inverse01Over2;

        Products(Prime prime0, Prime prime1, Prime prime2) {
            over0 = new FastProduct(prime0);
            over1 = new FastProduct(prime1);
            over2 = new FastProduct(prime2);
            inverse0Over1 = prime1.reciprocal(prime1.reduced(PRIME_0));
            inverse01Over2 = prime2.reciprocal(prime2.reduced(PRIME_0 * PRIME_1));
        }

        boolean has(int i) {
            return i >= 0 && i < count;
        }

        boolean anyBelowZero() {
            for (int k = 0; k < count; k++) {
                if (upper[k] < 0L) return true;
            }
            return false;
        }

        private void keepSum(int k) {
            upper[k] = sum.upper;
            lower[k] = sum.lower;
        }

        void byPlainSums(Row x, Row y) {
            count = x.size() + y.size() - 1;
            for (int k = 0; k < count; k++) {
                sum.clear();
                for (int i = Math.max(0, k - y.size() + 1); i <= k && i < x.size(); i++) {
                    sum.add(x.cells[i] * y.cells[k - i]);
                }
                keepSum(k);
            }
        }

        /** Whether every entry of a product, with its sign, is told by what it leaves over PRIME 0. */
        static boolean fitsOnePrime(Row x, Row y) {
            long sizes = x.greatestSize() * y.greatestSize();
            // the sizes alone are looked at first, for twice the number times them may outgrow a long
            return sizes < PRIME_0 && 2L * Math.min(x.size(), y.size()) * sizes < PRIME_0;
        }

        void byOnePrime(Row x, Row y) {
            over0.run(x, y);
            count = x.size() + y.size() - 1;
            for (int k = 0; k < count; k++) {
                long left = over0.result[k];
                sum.clear();
                sum.add(left > PRIME_0 / 2L ? left - PRIME_0 : left);
                keepSum(k);
            }
        }

        void byThreePrimes(Row x, Row y) {
            over0.run(x, y);
            over1.run(x, y);
            over2.run(x, y);
            count = x.size() + y.size() - 1;
            for (int k = 0; k < count; k++) {
                join(over0.result[k], over1.result[k], over2.result[k]);
                keepSum(k);
            }
        }

        /** The sum becomes the number of least size that leaves these over the three PRIMES. */
        private void join(long left0, long left1, long left2) {
            Prime prime1 = over1.prime;
            Prime prime2 = over2.prime;
            long digit1 = prime1.product(prime1.reduced(left1 - left0), inverse0Over1);
            long start = left0 + digit1 * PRIME_0;
            long digit2 = prime2.product(prime2.reduced(left2 - start), inverse01Over2);
            sum.clear();
            sum.add(start);
            sum.addProduct(digit2 > PRIME_2 / 2L ? digit2 - PRIME_2 : digit2, PRIME_0 * PRIME_1);
        }

        void around(Row x, Row y, int n) {
            if (n < 1 || n > MOST_ENTRIES) return;
            count = n;
            for (int i = 0; i < n; i++) {
                sum.clear();
                for (int j = 0; j < x.size(); j++) {
                    for (int k = Math.floorMod(i - j, n); k < y.size(); k += n) {
                        sum.add(x.cells[j] * y.cells[k]);
                    }
                }
                keepSum(i);
            }
        }

        void alongside(Row x, Row y) {
            count = x.size() + y.size() - 1;
            for (int i = 0; i < count; i++) {
                int ahead = i - (y.size() - 1);
                sum.clear();
                for (int j = Math.max(0, -ahead); j < y.size() && j + ahead < x.size(); j++) {
                    sum.add(x.cells[j + ahead] * y.cells[j]);
                }
                keepSum(i);
            }
        }

        void windows(Row x, int width) {
            count = Math.max(x.size() - width + 1, 0);
            for (int i = 0; i < count; i++) {
                sum.clear();
                for (int j = i; j < i + width && j < x.size(); j++) {
                    sum.add(x.cells[j]);
                }
                keepSum(i);
            }
        }

        /** How many digits the whole number has; 0: more than there is room for. No entry is below 0. */
        int digitsInto(long[] digits, int base) {
            int last = 0;
            sum.clear();
            // an entry has less than 128 bits, so that many digits behind the entries carry all that is left
            for (int k = 0; k < count + 128; k++) {
                if (k < count) sum.addPair(upper[k], lower[k]);
                long digit = sum.takeDigit(base);
                if (k < digits.length) digits[k] = digit;
                if (digit != 0L) last = k;
            }
            return last < digits.length ? last + 1 : 0;
        }
    }

    /** Polynomials over a PRIME. Results go to shelves whose count the caller has set. */
    private static final class Polynomials {
        private final long[] first = new long[MOST_ENTRIES];
        private final long[] second = new long[MOST_ENTRIES];
        private final long[] whole = new long[MOST_ENTRIES + 1];

        /** Each number on the shelf becomes itself times that of THE TRANSFORM of x. */
        void timesTransform(Row x, Prime prime, Shelf shelf) {
            prime.load(x, first);
            long turn = prime.rootFor(x.size());
            long point = 1L;
            for (int j = 0; j < x.size() && j < shelf.count; j++) {
                shelf.cells[j] = prime.product(shelf.cells[j], prime.valueAt(first, x.size(), point));
                point = prime.product(point, turn);
            }
        }

        void transformBack(Shelf shelf, Prime prime, Row x) {
            long turn = prime.reciprocal(prime.rootFor(x.size()));
            long share = prime.reciprocal(x.size());
            long point = 1L;
            for (int i = 0; i < x.size(); i++) {
                x.cells[i] = prime.product(share, prime.valueAt(shelf.cells, shelf.count, point));
                point = prime.product(point, turn);
            }
        }

        void raise(Row x, Prime prime, int exponent, Shelf result) {
            int n = result.count;
            for (int i = 0; i < n; i++) {
                first[i] = i < x.size() ? prime.reduced(x.cells[i]) : 0L;
                result.cells[i] = i == 0 ? 1L : 0L;
            }
            for (int left = exponent; left > 0; left >>= 1) {
                if ((left & 1) != 0) multiplyShort(result.cells, first, n, prime);
                multiplyShort(first, first, n, prime);
            }
        }

        /** Entries 0 .. n - 1 of a product, in place: from the last one down, none is needed that was written. */
        private static void multiplyShort(long[] target, long[] factor, int n, Prime prime) {
            for (int k = n - 1; k >= 0; k--) {
                long sum = 0L;
                for (int i = 0; i <= k; i++) {
                    sum = prime.sum(sum, prime.product(target[i], factor[k - i]));
                }
                target[k] = sum;
            }
        }

        /** The series that, times x, is 1; entry 0 of x is not 0 over the PRIME. */
        void invert(Row x, Prime prime, Shelf result) {
            prime.load(x, first);
            long scale = prime.reciprocal(first[0]);
            result.cells[0] = scale;
            for (int k = 1; k < result.count; k++) {
                long sum = 0L;
                for (int i = 1; i <= k && i < x.size(); i++) {
                    sum = prime.sum(sum, prime.product(first[i], result.cells[k - i]));
                }
                result.cells[k] = prime.product(prime.difference(0L, sum), scale);
            }
        }

        /** x by y: the rests' count is the degree of y, which is not 0 over the PRIME. */
        void part(Row x, Row y, Prime prime, Shelf quotient, Shelf rests) {
            int degree = rests.count;
            prime.load(x, first);
            prime.load(y, second);
            long scale = prime.reciprocal(second[degree]);
            for (int k = quotient.count - 1; k >= 0; k--) {
                long factor = prime.product(first[k + degree], scale);
                quotient.cells[k] = factor;
                for (int j = 0; j <= degree; j++) {
                    first[k + j] = prime.difference(first[k + j], prime.product(factor, second[j]));
                }
            }
            for (int j = 0; j < degree; j++) {
                rests.cells[j] = j < x.size() ? first[j] : 0L;
            }
        }

        void valuesAt(Row x, Row points, Prime prime, Shelf result) {
            prime.load(x, first);
            for (int i = 0; i < points.size(); i++) {
                result.cells[i] = prime.valueAt(first, x.size(), prime.reduced(points.cells[i]));
            }
        }

        /** Lagrange's sum: for each point what is 0 at all others, scaled to its value; no two points are alike. */
        void through(Row points, Row values, Prime prime, Shelf result) {
            int n = result.count;
            prime.load(points, first);
            fillWhole(n, prime);
            for (int k = 0; k < n; k++) {
                result.cells[k] = 0L;
            }
            for (int i = 0; i < n; i++) {
                leaveOut(first[i], n, prime);
                long scale = prime.reciprocal(prime.valueAt(second, n, first[i]));
                long factor = prime.product(prime.reduced(values.cells[i]), scale);
                for (int k = 0; k < n; k++) {
                    result.cells[k] = prime.sum(result.cells[k], prime.product(factor, second[k]));
                }
            }
        }

        /** The whole becomes the product of all (X - point), for the first n numbers in first. */
        private void fillWhole(int n, Prime prime) {
            whole[0] = 1L;
            for (int i = 0; i < n; i++) {
                whole[i + 1] = whole[i];
                for (int k = i; k > 0; k--) {
                    whole[k] = prime.difference(whole[k - 1], prime.product(first[i], whole[k]));
                }
                whole[0] = prime.difference(0L, prime.product(first[i], whole[0]));
            }
        }

        /** Second becomes the whole, divided by (X - point). */
        private void leaveOut(long point, int n, Prime prime) {
            long above = 0L;
            for (int k = n; k > 0; k--) {
                above = prime.sum(whole[k], prime.product(above, point));
                second[k - 1] = above;
            }
        }
    }

    /** Doubles as the machine reckons them; what is not a number is never reckoned with, a flag stands for it. */
    private static final class Doubles {
        private static final long SIGN = 0x8000000000000000L;
        private static final long INFINITE = 0x7ff0000000000000L;
        private static final long FRACTION = 0x000fffffffffffffL;
        private static final long HIDDEN_BIT = 0x0010000000000000L;
        private static final int POWERS = 10;
        /** 2 to the 1, 2, 4 .. 512. */
        private final double[] powers = new double[POWERS];
        private final double[] left = new double[MOST_ENTRIES];
        private final double[] right = new double[MOST_ENTRIES];
        private final boolean[] leftNone = new boolean[MOST_ENTRIES];
        private final boolean[] rightNone = new boolean[MOST_ENTRIES];

        Doubles() {
            powers[0] = 2.0;
            for (int i = 1; i < POWERS; i++) {
                powers[i] = powers[i - 1] * powers[i - 1];
            }
        }

        static boolean isNone(long bits) {
            return (bits & ~SIGN) > INFINITE;
        }

        void product(Row x, Row y, Shelf result) {
            load(x, left, leftNone);
            load(y, right, rightNone);
            for (int k = 0; k < result.count; k++) {
                result.cells[k] = entryBits(k, x.size(), y.size());
            }
        }

        private void load(Row x, double[] target, boolean[] none) {
            for (int i = 0; i < x.size(); i++) {
                none[i] = x.lane == DOUBLES && isNone(x.cells[i]);
                target[i] = x.lane == DOUBLES ? fromBits(x.cells[i]) : (double) x.cells[i];
            }
        }

        private long entryBits(int k, int n, int m) {
            double sum = 0.0;
            for (int i = Math.max(0, k - m + 1); i <= k && i < n; i++) {
                double x = left[i];
                double y = right[k - i];
                if (leftNone[i] || rightNone[k - i] || isNoProduct(x, y)) return NOT_A_NUMBER;
                double part = x * y;
                if (isNoSum(sum, part)) return NOT_A_NUMBER;
                sum = sum + part;
            }
            return toBits(sum);
        }

        private static boolean isNoProduct(double x, double y) {
            return x == 0.0 && isInfinite(y) || isInfinite(x) && y == 0.0;
        }

        private static boolean isNoSum(double x, double y) {
            return isInfinite(x) && isInfinite(y) && x > 0.0 != y > 0.0;
        }

        private static boolean isInfinite(double x) {
            return x > 1.7976931348623157E308 || x < -1.7976931348623157E308;
        }

        /** The double of these bits; of what is not a number some other one. */
        private double fromBits(long bits) {
            int exponent = (int) ((bits & INFINITE) >>> 52);
            long fraction = bits & FRACTION;
            // a double below the normal ones has the least exponent of these, but no hidden bit
            double size = exponent == 0 ? (double) fraction : (double) (fraction | HIDDEN_BIT);
            int power = (exponent == 0 ? 1 : exponent) - 1075;
            // of the greatest exponent this grows past all doubles by itself and becomes infinite
            size = scaled(scaled(size, power / 2), power - power / 2);
            return (bits & SIGN) != 0L ? size * -1.0 : size;
        }

        /** The bits of a sum that began with 0.0: such a sum is never the 0 below 0. */
        private long toBits(double x) {
            long sign = x < 0.0 ? SIGN : 0L;
            double size = x < 0.0 ? 0.0 - x : x;
            if (isInfinite(size)) return sign | INFINITE;
            if (size < 2.2250738585072014E-308) return sign | (long) scaled(scaled(size, 537), 537);
            return sign | normalBits(size);
        }

        private long normalBits(double size) {
            double unit = size;
            int exponent = 1023;
            for (int i = POWERS - 1; i >= 0; i--) {
                if (unit >= powers[i]) {
                    unit = unit / powers[i];
                    exponent += 1 << i;
                }
            }
            for (int i = POWERS - 1; i >= 0; i--) {
                if (unit * powers[i] < 2.0) {
                    unit = unit * powers[i];
                    exponent -= 1 << i;
                }
            }
            return ((long) exponent << 52) | ((long) (unit * 4503599627370496.0) & FRACTION);
        }

        /** x times 2 to a power between -1023 and 1023. */
        private double scaled(double x, int power) {
            int size = Math.abs(power);
            double result = x;
            for (int i = 0; i < POWERS; i++) {
                if ((size >> i & 1) != 0) {
                    result = power < 0 ? result / powers[i] : result * powers[i];
                }
            }
            return result;
        }
    }
}
