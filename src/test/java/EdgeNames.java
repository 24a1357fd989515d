/** Short names for the tests of boundary cases. */
abstract class EdgeNames {
    static final int UNKNOWN = -1, OUTSIDE = -2, STATE = -3, FULL = -4, NONE = -9;
    static final int BYTES = Rows.BYTES, SHORTS = Rows.SHORTS, INTS = Rows.INTS, LONGS = Rows.LONGS, DOUBLES = Rows.DOUBLES;
    static final int NULL = Rows.NULL, CAST = Rows.CAST, INDEX = Rows.INDEX, SIZE = Rows.SIZE, ZERO = Rows.ZERO;
    static final int NOTHING = Table.NOTHING;
    static final int MIN = Integer.MIN_VALUE, MAX = Integer.MAX_VALUE;
    static final long P0 = Rows.PRIMES[0], P1 = Rows.PRIMES[1], P2 = Rows.PRIMES[2];
    static final int[] NO_PLACES = {-1, 12, MIN, MAX};
    static final int[] NO_PRIMES = {-1, 3, MIN, MAX};
    static final int[] NO_COUNTS = {0, -1, 65, MIN, MAX};

    static void due(String call, long got, long want) {
        Check.due(call, got, want);
    }

    static void fill(ConvolutionBench x, int p, int lane, long... values) {
        Rows.fill(x, p, lane, values);
    }

    static void fillDoubles(ConvolutionBench x, int p, double... values) {
        Rows.fillDoubles(x, p, values);
    }

    /** A row that is all one number. */
    static long[] all(int n, long value) {
        long[] row = new long[n];
        java.util.Arrays.fill(row, value);
        return row;
    }

    /** A row that is 0 but for one entry. */
    static long[] only(int n, int i, long value) {
        long[] row = new long[n];
        row[i] = value;
        return row;
    }

    /** The row from, from + 1 and so on. */
    static long[] rising(int n, long from) {
        long[] row = new long[n];
        for (int i = 0; i < n; i++) {
            row[i] = from + i;
        }
        return row;
    }
}
