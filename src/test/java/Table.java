import java.util.ArrayList;
import java.util.List;

/** A bench on which everything has been laid out and made once, and all that can be seen of a bench. */
final class Table {
    /** A place of the laid table that has nothing. */
    static final int NOTHING = 9;

    private Table() {
    }

    /**
     * Places 0 to 4 have 4 INTS, 2 BYTES, 3 SHORTS, 2 LONGS and 2 DOUBLES, place 5 has the ROW of place 0, the others
     * nothing. THE SPECTRUM has 4 values over PRIME 1, THE PRODUCT 7 entries, there are 2 RESIDUES, 2 RESTS, 1 FIT and
     * 5 REALS.
     */
    static ConvolutionBench laid() {
        ConvolutionBench x = new ConvolutionBench();
        Rows.fill(x, 0, Rows.INTS, 1, 2, 3, 4);
        Rows.fill(x, 1, Rows.BYTES, 3, 4);
        Rows.fill(x, 2, Rows.SHORTS, 1, 1, 1);
        Rows.fill(x, 3, Rows.LONGS, 5, 6);
        Rows.fillDoubles(x, 4, 1.0, 2.0);
        Check.due("share", x.share(5, 0), 1);
        Check.due("transform", x.transform(0, 1), 4);
        Check.due("multiply", x.multiply(0, 0, 0), 7);
        Check.due("divide", x.divide(0, 2, 0), 2);
        Check.due("match", x.match(0, 1, 0), 1);
        Check.due("real", x.real(0, 1), 5);
        return x;
    }

    /** All that can be seen, but for fault(); which places share a ROW is seen by putting, so this comes last. */
    static List<String> seen(ConvolutionBench x) {
        List<String> seen = new ArrayList<>();
        for (int p = 0; p < 12; p++) {
            seen.add("place " + p + ": " + rowOf(x, p));
        }
        for (int what = 0; what < 7; what++) {
            seen.add(made(x, what));
        }
        for (int p = 0; p < 12; p++) {
            x.put(p, 0, 100 + p);
        }
        for (int p = 0; p < 12; p++) {
            seen.add("who shares place " + p + " was seen as " + x.at(p, 0));
        }
        return seen;
    }

    /** One of the things that calls make, by the number that told() has for it. */
    static String made(ConvolutionBench x, int what) {
        switch (what) {
            case 0: return "THE SPECTRUM: " + numbers(x.told(0), x::value);
            case 1: return "its PRIME: " + x.told(1);
            case 2: return "THE PRODUCT: " + numbers(x.told(2), x::high) + "/ " + numbers(x.told(2), x::low);
            case 3: return "THE RESIDUES: " + numbers(x.told(3), x::residue);
            case 4: return "THE RESTS: " + numbers(x.told(4), x::rest);
            case 5: return "THE FITS: " + numbers(x.told(5), x::matchAt);
            default: return "THE REALS: " + numbers(x.told(6), x::realAt);
        }
    }

    private interface Reader {
        long read(int i);
    }

    private static String numbers(int count, Reader reader) {
        StringBuilder text = new StringBuilder();
        for (int i = 0; i < count; i++) {
            text.append(reader.read(i)).append(' ');
        }
        return text.toString();
    }

    private static String rowOf(ConvolutionBench x, int p) {
        return "LANE " + x.kind(p, 0) + ", " + numbers(x.kind(p, 1), i -> x.at(p, i));
    }
}
