/** Short ways for tests to set up rows and to look at what was made. */
final class Rows {
    static final int BYTES = 0, SHORTS = 1, INTS = 2, LONGS = 3, DOUBLES = 4;
    static final int NULL = 1, CAST = 2, INDEX = 3, SIZE = 4, ZERO = 5;
    static final long[] PRIMES = {998244353L, 1004535809L, 469762049L};
    static final long NAN = Double.doubleToLongBits(Double.NaN);

    private Rows() {
    }

    static ConvolutionBench bench() {
        return new ConvolutionBench();
    }

    static void fill(ConvolutionBench x, int p, int lane, long... values) {
        Check.due("row", x.row(p, lane, values.length), 1);
        for (int i = 0; i < values.length; i++) {
            Check.due("put", x.put(p, i, values[i]), 1);
        }
    }

    static void fillDoubles(ConvolutionBench x, int p, double... values) {
        Check.due("row", x.row(p, DOUBLES, values.length), 1);
        for (int i = 0; i < values.length; i++) {
            Check.due("put", x.put(p, i, Double.doubleToRawLongBits(values[i])), 1);
        }
    }

    static void dueRow(String what, ConvolutionBench x, int p, long... values) {
        Check.due(what + ": size", x.kind(p, 1), values.length);
        for (int i = 0; i < values.length; i++) {
            Check.due(what + ": entry " + i, x.at(p, i), values[i]);
        }
    }

    static void dueSpectrum(String what, ConvolutionBench x, long... values) {
        Check.due(what + ": told(0)", x.told(0), values.length);
        Check.due(what + ": value(-1)", x.value(-1), -1);
        for (int i = 0; i < values.length; i++) {
            Check.due(what + ": value " + i, x.value(i), values[i]);
        }
        Check.due(what + ": value behind", x.value(values.length), -1);
    }

    /** Entries that a long takes. */
    static void dueProduct(String what, ConvolutionBench x, long... values) {
        Check.due(what + ": told(2)", x.told(2), values.length);
        for (int i = 0; i < values.length; i++) {
            Check.due(what + ": high " + i, x.high(i), values[i] < 0 ? -1 : 0);
            Check.due(what + ": low " + i, x.low(i), values[i]);
        }
        Check.due(what + ": high behind", x.high(values.length), 0);
        Check.due(what + ": low behind", x.low(values.length), 0);
    }

    static void dueResidues(String what, ConvolutionBench x, long... values) {
        Check.due(what + ": told(3)", x.told(3), values.length);
        Check.due(what + ": residue(-1)", x.residue(-1), -1);
        for (int i = 0; i < values.length; i++) {
            Check.due(what + ": residue " + i, x.residue(i), values[i]);
        }
        Check.due(what + ": residue behind", x.residue(values.length), -1);
    }

    static void dueRests(String what, ConvolutionBench x, long... values) {
        Check.due(what + ": told(4)", x.told(4), values.length);
        Check.due(what + ": rest(-1)", x.rest(-1), -1);
        for (int i = 0; i < values.length; i++) {
            Check.due(what + ": rest " + i, x.rest(i), values[i]);
        }
        Check.due(what + ": rest behind", x.rest(values.length), -1);
    }

    static void dueFits(String what, ConvolutionBench x, int... values) {
        Check.due(what + ": told(5)", x.told(5), values.length);
        Check.due(what + ": matchAt(-1)", x.matchAt(-1), ConvolutionBench.NONE);
        for (int i = 0; i < values.length; i++) {
            Check.due(what + ": matchAt " + i, x.matchAt(i), values[i]);
        }
        Check.due(what + ": matchAt behind", x.matchAt(values.length), ConvolutionBench.NONE);
    }

    static void dueReals(String what, ConvolutionBench x, double... values) {
        Check.due(what + ": told(6)", x.told(6), values.length);
        Check.due(what + ": realAt(-1)", x.realAt(-1), NAN);
        for (int i = 0; i < values.length; i++) {
            Check.due(what + ": realAt " + i, x.realAt(i), Double.doubleToLongBits(values[i]));
        }
        Check.due(what + ": realAt behind", x.realAt(values.length), NAN);
    }

    /** A call that answers an int came to a fault: it answers so, and fault() tells it. */
    static void dueFault(String what, ConvolutionBench x, int got, int fault) {
        Check.due(what, got, -10 - fault);
        Check.due(what + ": fault()", x.fault(), fault);
    }

    /** A call that names faults was refused: fault() tells none, whatever was there. */
    static void dueRefusal(String what, ConvolutionBench x, int got, int refusal) {
        Check.due(what, got, refusal);
        Check.due(what + ": fault()", x.fault(), 0);
    }

    /** Makes fault() tell INDEX, so that a test sees who clears it and who does not. */
    static void spoil(ConvolutionBench x) {
        Check.due("row", x.row(11, BYTES, 1), 1);
        Check.due("put beside", x.put(11, 1, 0), -13);
        Check.due("fault()", x.fault(), INDEX);
    }
}
