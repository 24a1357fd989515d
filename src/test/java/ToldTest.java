/** Promises 35 and 36: fault, told; and which calls touch what is told. */
public final class ToldTest {
    private static final int OUTSIDE = ConvolutionBench.OUTSIDE;
    private static final int NONE = ConvolutionBench.NONE;

    public static void main(String[] args) {
        told();
        faultIsKeptByCallsThatNameNone();
        faultIsClearedByCallsThatNameOne();
        onlyItsOwnIsMadeAnew();
        Check.finish("ToldTest");
    }

    private static void dueTold(String what, ConvolutionBench x, int... want) {
        for (int i = 0; i < want.length; i++) {
            Check.due(what + ": told(" + i + ")", x.told(i), want[i]);
        }
    }

    private static void told() {
        ConvolutionBench x = Rows.bench();
        for (int what : new int[] {-1, 7, Integer.MIN_VALUE, Integer.MAX_VALUE}) {
            Check.due("told, OUTSIDE", x.told(what), OUTSIDE);
        }
        dueTold("new", x, 0, NONE, 0, 0, 0, 0, 0);
        everything(x);
        dueTold("all", x, 4, 1, 7, 2, 2, 1, 5);
        for (int what : new int[] {-1, 7}) {
            Check.due("told, OUTSIDE", x.told(what), OUTSIDE);
        }
    }

    /** Makes each thing that can be told: place 0 has four INTS, place 1 two BYTES. */
    private static void everything(ConvolutionBench x) {
        Rows.fill(x, 0, Rows.INTS, 1, 2, 3, 4);
        Rows.fill(x, 1, Rows.BYTES, 3, 4);
        Rows.fill(x, 2, Rows.BYTES, 1, 1, 1);
        Check.due("transform", x.transform(0, 1), 4);
        Check.due("multiply", x.multiply(0, 0, 0), 7);
        Check.due("divide", x.divide(0, 2, 0), 2);
        Check.due("match", x.match(0, 1, 0), 1);
        Check.due("real", x.real(0, 1), 5);
    }

    private static void faultIsKeptByCallsThatNameNone() {
        ConvolutionBench x = Rows.bench();
        everything(x);
        Rows.spoil(x);
        x.share(5, 0);
        x.share(12, 0);
        x.kind(0, 0);
        x.kind(12, 0);
        x.value(0);
        x.value(-1);
        Check.due("inverse", x.inverse(6), 4);
        x.inverse(12);
        x.high(0);
        x.high(-1);
        x.low(0);
        x.low(-1);
        Check.due("carry", x.carry(7, 10), 8);
        Check.due("carry", x.carry(7, 1), OUTSIDE);
        x.cost(0, 1, 1);
        x.cost(9, 1, 1);
        x.plan(1, 1);
        x.plan(0, 0);
        x.residue(0);
        x.residue(-1);
        x.rest(0);
        x.rest(-1);
        x.matchAt(0);
        x.matchAt(-1);
        x.realAt(0);
        x.realAt(-1);
        x.told(0);
        x.told(9);
        Check.due("fault()", x.fault(), Rows.INDEX);
        Check.due("fault() again", x.fault(), Rows.INDEX);
    }

    private static void faultIsClearedByCallsThatNameOne() {
        for (int call = 0; call < 20; call++) {
            for (int p : new int[] {0, 12}) {
                ConvolutionBench x = Rows.bench();
                everything(x);
                Rows.spoil(x);
                act(x, call, p);
                Check.due("fault() after call " + call + " at " + p, x.fault(), 0);
            }
        }
    }

    private static void act(ConvolutionBench x, int call, int p) {
        switch (call) {
            case 0: x.row(p, 0, 1); break;
            case 1: x.put(p, 0, 1); break;
            case 2: x.at(p, 0); break;
            case 3: x.as(p, 0, Rows.INTS); break;
            case 4: x.reverse(p); break;
            case 5: x.shift(p, 1); break;
            case 6: x.root(p, 1); break;
            case 7: x.transform(p, 0); break;
            case 8: x.times(p); break;
            case 9: x.multiply(p, 1, 0); break;
            case 10: x.circular(p, 1, 1); break;
            case 11: x.correlate(1, p); break;
            case 12: x.slide(p, 1); break;
            case 13: x.power(p, 0, 1, 1); break;
            case 14: x.series(p, 0, 1); break;
            case 15: x.divide(p, 1, 0); break;
            case 16: x.evaluate(p, 1, 0); break;
            case 17: x.interpolate(p, 0, 0); break;
            case 18: x.match(p, 1, 0); break;
            default: x.real(p, 1); break;
        }
    }

    private static void onlyItsOwnIsMadeAnew() {
        ConvolutionBench x = Rows.bench();
        everything(x);
        Check.due("evaluate", x.evaluate(0, 0, 0), 4);
        dueTold("evaluate", x, 4, 1, 7, 4, 2, 1, 5);
        Check.due("power", x.power(0, 0, 2, 9), 9);
        dueTold("power", x, 4, 1, 7, 9, 2, 1, 5);
        Check.due("series", x.series(0, 0, 8), 8);
        dueTold("series", x, 4, 1, 7, 8, 2, 1, 5);
        Check.due("interpolate", x.interpolate(1, 1, 0), 2);
        dueTold("interpolate", x, 4, 1, 7, 2, 2, 1, 5);
        Check.due("slide", x.slide(0, 2), 3);
        dueTold("slide", x, 4, 1, 3, 2, 2, 1, 5);
        Check.due("circular", x.circular(0, 0, 11), 11);
        dueTold("circular", x, 4, 1, 11, 2, 2, 1, 5);
        Check.due("correlate", x.correlate(0, 1), 5);
        dueTold("correlate", x, 4, 1, 5, 2, 2, 1, 5);
        Check.due("transform", x.transform(1, 2), 2);
        dueTold("transform", x, 2, 2, 5, 2, 2, 1, 5);
        Check.due("match", x.match(1, 0, 0), 0);
        dueTold("match", x, 2, 2, 5, 2, 2, 0, 5);
        Check.due("real", x.real(1, 1), 3);
        dueTold("real", x, 2, 2, 5, 2, 2, 0, 3);
        Check.due("divide", x.divide(0, 1, 0), 3);
        dueTold("divide", x, 2, 2, 5, 3, 1, 0, 3);
    }
}
