/** Promises 1 to 9: a new object, row, share, kind, put, at, as, reverse, shift. */
public final class RowsTest {
    private static final int UNKNOWN = ConvolutionBench.UNKNOWN;
    private static final int OUTSIDE = ConvolutionBench.OUTSIDE;
    private static final int NONE = ConvolutionBench.NONE;

    public static void main(String[] args) {
        newObject();
        row();
        share();
        kind();
        put();
        at();
        as();
        reverse();
        shift();
        Check.finish("RowsTest");
    }

    private static void newObject() {
        ConvolutionBench x = Rows.bench();
        Check.due("fault() of a new object", x.fault(), 0);
        for (int p = 0; p < 12; p++) {
            Check.due("new kind", x.kind(p, 0), NONE);
            Check.due("new kind", x.kind(p, 1), NONE);
        }
        int[] counts = {0, NONE, 0, 0, 0, 0, 0};
        for (int what = 0; what < counts.length; what++) {
            Check.due("new told " + what, x.told(what), counts[what]);
        }
        Check.due("two objects", Rows.bench().row(0, 0, 1), 1);
        Check.due("two objects share nothing", x.kind(0, 0), NONE);
    }

    private static void row() {
        ConvolutionBench x = Rows.bench();
        for (int lane = 0; lane < 5; lane++) {
            for (int n : new int[] {1, 2, 63, 64}) {
                Check.due("row", x.row(lane, lane, n), 1);
                Check.due("lane", x.kind(lane, 0), lane);
                Check.due("size", x.kind(lane, 1), n);
                Check.due("first", x.at(lane, 0), 0);
                Check.due("last", x.at(lane, n - 1), 0);
            }
        }
        Check.due("place 11", x.row(11, 0, 1), 1);
        Rows.fill(x, 0, Rows.INTS, 1, 2, 3);
        Check.due("new row over an old one", x.row(0, Rows.INTS, 3), 1);
        Rows.dueRow("new row", x, 0, 0, 0, 0);
        for (int p : new int[] {-1, 12, Integer.MIN_VALUE, Integer.MAX_VALUE}) {
            Rows.spoil(x);
            Rows.dueRefusal("row, place " + p, x, x.row(p, 9, -1), UNKNOWN);
        }
        for (int lane : new int[] {-1, 5, Integer.MIN_VALUE, Integer.MAX_VALUE}) {
            Rows.spoil(x);
            Rows.dueRefusal("row, lane " + lane, x, x.row(0, lane, -1), OUTSIDE);
            Rows.dueRefusal("row, lane " + lane, x, x.row(0, lane, 1), OUTSIDE);
        }
        for (int n : new int[] {0, 65, Integer.MAX_VALUE}) {
            Rows.dueRefusal("row, n " + n, x, x.row(0, 0, n), OUTSIDE);
        }
        for (int n : new int[] {-1, -64, Integer.MIN_VALUE}) {
            Rows.dueFault("row, n " + n, x, x.row(0, 0, n), Rows.SIZE);
        }
        Check.due("refused calls change nothing", x.kind(0, 0), Rows.INTS);
        Check.due("row", x.row(0, 0, 1), 1);
        Check.due("fault() after none", x.fault(), 0);
    }

    private static void share() {
        ConvolutionBench x = Rows.bench();
        Rows.fill(x, 0, Rows.SHORTS, 4, 5);
        Check.due("share", x.share(3, 0), 1);
        Check.due("put through the share", x.put(3, 1, 77), 1);
        Check.due("seen in the other place", x.at(0, 1), 77);
        Check.due("reverse through the share", x.reverse(0), 1);
        Rows.dueRow("shared", x, 3, 77, 4);
        Check.due("row in one place", x.row(0, Rows.BYTES, 1), 1);
        Rows.dueRow("the other keeps it", x, 3, 77, 4);
        Check.due("share with itself", x.share(3, 3), 1);
        Rows.dueRow("still there", x, 3, 77, 4);
        Check.due("share of nothing", x.share(3, 8), 1);
        Check.due("nothing there", x.kind(3, 0), NONE);
        Rows.spoil(x);
        Check.due("share, UNKNOWN", x.share(-1, 0), UNKNOWN);
        Check.due("share, UNKNOWN", x.share(12, 0), UNKNOWN);
        Check.due("share, UNKNOWN", x.share(0, -1), UNKNOWN);
        Check.due("share, UNKNOWN", x.share(0, 12), UNKNOWN);
        Check.due("share names no FAULT", x.fault(), Rows.INDEX);
        Check.due("place 0 as it was", x.kind(0, 0), Rows.BYTES);
    }

    private static void kind() {
        ConvolutionBench x = Rows.bench();
        Check.due("row", x.row(2, Rows.DOUBLES, 7), 1);
        Check.due("lane", x.kind(2, 0), Rows.DOUBLES);
        Check.due("size", x.kind(2, 1), 7);
        Rows.spoil(x);
        Check.due("nothing", x.kind(1, 0), NONE);
        Check.due("nothing", x.kind(1, 1), NONE);
        Check.due("nothing, OUTSIDE", x.kind(1, 2), OUTSIDE);
        Check.due("OUTSIDE", x.kind(2, 2), OUTSIDE);
        Check.due("OUTSIDE", x.kind(2, -1), OUTSIDE);
        Check.due("UNKNOWN", x.kind(-1, 2), UNKNOWN);
        Check.due("UNKNOWN", x.kind(12, 0), UNKNOWN);
        Check.due("kind names no FAULT", x.fault(), Rows.INDEX);
    }

    private static void put() {
        ConvolutionBench x = Rows.bench();
        long[] tried = {0, 1, -1, 127, 128, -128, -129, 255, 256, 32767, 32768, -32768, -32769, 65535,
            Integer.MAX_VALUE, Integer.MAX_VALUE + 1L, Integer.MIN_VALUE, Integer.MIN_VALUE - 1L,
            Long.MAX_VALUE, Long.MIN_VALUE, 0x123456789abcdef0L};
        for (int lane = 0; lane < 4; lane++) {
            Check.due("row", x.row(lane, lane, 2), 1);
            for (long v : tried) {
                long want = lane == 0 ? (byte) v : lane == 1 ? (short) v : lane == 2 ? (int) v : v;
                Check.due("put", x.put(lane, 1, v), 1);
                Check.due("put " + v + " in lane " + lane, x.at(lane, 1), want);
                Check.due("the other entry", x.at(lane, 0), 0);
            }
        }
        putDoubles(x);
        Rows.spoil(x);
        Rows.dueRefusal("put, UNKNOWN", x, x.put(12, 0, 1), UNKNOWN);
        Rows.dueRefusal("put, UNKNOWN", x, x.put(-1, 5, 1), UNKNOWN);
        Rows.dueFault("put, NULL", x, x.put(9, 0, 1), Rows.NULL);
        Rows.dueFault("put, NULL ahead of INDEX", x, x.put(9, -1, 1), Rows.NULL);
        for (int i : new int[] {-1, 2, Integer.MIN_VALUE, Integer.MAX_VALUE}) {
            Rows.dueFault("put, INDEX", x, x.put(0, i, 1), Rows.INDEX);
        }
    }

    private static void putDoubles(ConvolutionBench x) {
        double[] kept = {0.0, -0.0, 1.0, -1.5, Double.MIN_VALUE, -Double.MIN_VALUE, Double.MIN_NORMAL, Double.MAX_VALUE,
            Double.POSITIVE_INFINITY, Double.NEGATIVE_INFINITY, 1e-310, Math.PI};
        Check.due("row", x.row(4, Rows.DOUBLES, 1), 1);
        for (double d : kept) {
            long bits = Double.doubleToLongBits(d);
            Check.due("put", x.put(4, 0, bits), 1);
            Check.due("put of " + d, x.at(4, 0), bits);
        }
        long[] none = {0x7ff0000000000001L, 0x7fffffffffffffffL, 0xfff0000000000001L, -1L, 0xfff8000000000000L,
            0x7ff8000000000000L, 0x7ff8000000000001L};
        for (long bits : none) {
            Check.due("put", x.put(4, 0, bits), 1);
            Check.due("put of what is not a number", x.at(4, 0), Rows.NAN);
        }
    }

    private static void at() {
        ConvolutionBench x = Rows.bench();
        Rows.fill(x, 0, Rows.LONGS, 5, 6);
        Rows.spoil(x);
        Check.due("at", x.at(0, 1), 6);
        Check.due("fault()", x.fault(), 0);
        Rows.spoil(x);
        Check.due("at, UNKNOWN", x.at(12, 0), 0);
        Check.due("fault()", x.fault(), 0);
        Check.due("at, NULL", x.at(5, -1), 0);
        Check.due("fault()", x.fault(), Rows.NULL);
        Check.due("at, UNKNOWN", x.at(-1, 0), 0);
        Check.due("fault()", x.fault(), 0);
        for (int i : new int[] {-1, 2, Integer.MIN_VALUE, Integer.MAX_VALUE}) {
            Check.due("at, INDEX", x.at(0, i), 0);
            Check.due("fault()", x.fault(), Rows.INDEX);
        }
    }

    private static void as() {
        ConvolutionBench x = Rows.bench();
        for (int lane = 0; lane < 5; lane++) {
            Rows.fill(x, lane, lane, 1, 2);
            for (int other = 0; other < 5; other++) {
                Check.due("as", x.as(lane, 1, other), other == lane ? 2 : 0);
                Check.due("fault()", x.fault(), other == lane ? 0 : Rows.CAST);
                Check.due("as, beside", x.as(lane, 2, other), 0);
                Check.due("fault()", x.fault(), other == lane ? Rows.INDEX : Rows.CAST);
                Check.due("as, beside", x.as(lane, -1, other), 0);
                Check.due("fault()", x.fault(), other == lane ? Rows.INDEX : Rows.CAST);
            }
        }
        Check.due("as, NULL", x.as(7, 9, 0), 0);
        Check.due("fault()", x.fault(), Rows.NULL);
        Check.due("as, OUTSIDE", x.as(7, 9, 5), 0);
        Check.due("fault()", x.fault(), 0);
        Rows.spoil(x);
        Check.due("as, OUTSIDE", x.as(0, 0, -1), 0);
        Check.due("fault()", x.fault(), 0);
        Rows.spoil(x);
        Check.due("as, UNKNOWN", x.as(12, 0, 0), 0);
        Check.due("fault()", x.fault(), 0);
        Check.due("as, UNKNOWN", x.as(-1, 0, 0), 0);
    }

    private static void reverse() {
        ConvolutionBench x = Rows.bench();
        Rows.fill(x, 0, Rows.BYTES, 1, 2, 3, 4);
        Check.due("reverse", x.reverse(0), 1);
        Rows.dueRow("reverse", x, 0, 4, 3, 2, 1);
        Rows.fill(x, 1, Rows.DOUBLES, 1, Long.MIN_VALUE, 3);
        Check.due("reverse", x.reverse(1), 1);
        Rows.dueRow("reverse", x, 1, 3, Long.MIN_VALUE, 1);
        Rows.fill(x, 2, Rows.INTS, 9);
        Check.due("reverse", x.reverse(2), 1);
        Rows.dueRow("reverse", x, 2, 9);
        Rows.dueFault("reverse, NULL", x, x.reverse(7), Rows.NULL);
        Rows.dueRefusal("reverse, UNKNOWN", x, x.reverse(-1), UNKNOWN);
        Rows.dueRefusal("reverse, UNKNOWN", x, x.reverse(12), UNKNOWN);
    }

    private static void shift() {
        ConvolutionBench x = Rows.bench();
        int[] ks = {0, 1, 2, 4, 5, 6, -1, -4, -5, -6, 12, Integer.MAX_VALUE, Integer.MIN_VALUE};
        for (int k : ks) {
            Rows.fill(x, 0, Rows.LONGS, 10, 11, 12, 13, 14);
            Check.due("shift", x.shift(0, k), 1);
            for (int i = 0; i < 5; i++) {
                int to = (int) Math.floorMod((long) i + k, 5L);
                Check.due("shift by " + k, x.at(0, to), 10 + i);
            }
        }
        Rows.fill(x, 0, Rows.INTS, 1, 2, 3);
        Check.due("shift by one", x.shift(0, 1), 1);
        Rows.dueRow("shift goes on", x, 0, 3, 1, 2);
        Check.due("shift back", x.shift(0, -2), 1);
        Rows.dueRow("shift goes back", x, 0, 2, 3, 1);
        Rows.dueFault("shift, NULL", x, x.shift(7, 1), Rows.NULL);
        Rows.dueRefusal("shift, UNKNOWN", x, x.shift(12, 1), UNKNOWN);
        Rows.dueRefusal("shift, UNKNOWN", x, x.shift(-1, 1), UNKNOWN);
    }
}
