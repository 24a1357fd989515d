/** The boundary cases of promises 35 and 36: fault, told. */
public final class ToldEdgesTest extends EdgeNames {
    public static void main(String[] args) {
        Edges e = new Edges();
        list(e);
        e.run("ToldEdgesTest");
    }

    static void list(Edges e) {
        faultOfTheLatest(e);
        faultIsOver(e);
        faultIsKept(e);
        told(e);
        toldRefused(e);
    }

    /** A call on the laid table by its name. */
    private record Named(String name, Edges.Call call) {
    }

    private static void faultOfTheLatest(Edges e) {
        e.promise(35);
        e.words("The FAULT of the latest call that names one");
        Named[] nulls = {
            new Named("put", x -> x.put(NOTHING, 0, 1)), new Named("at", x -> x.at(NOTHING, 0)),
            new Named("as", x -> x.as(NOTHING, 0, BYTES)), new Named("reverse", x -> x.reverse(NOTHING)),
            new Named("shift", x -> x.shift(NOTHING, 1)), new Named("transform", x -> x.transform(NOTHING, 0)),
            new Named("times", x -> x.times(NOTHING)), new Named("multiply", x -> x.multiply(0, NOTHING, 0)),
            new Named("circular", x -> x.circular(0, NOTHING, 1)), new Named("correlate", x -> x.correlate(0, NOTHING)),
            new Named("slide", x -> x.slide(NOTHING, 1)), new Named("power", x -> x.power(NOTHING, 0, 1, 1)),
            new Named("series", x -> x.series(NOTHING, 0, 1)), new Named("divide", x -> x.divide(0, NOTHING, 0)),
            new Named("evaluate", x -> x.evaluate(0, NOTHING, 0)), new Named("interpolate", x -> x.interpolate(0, NOTHING, 0)),
            new Named("match", x -> x.match(0, NOTHING, 0)), new Named("real", x -> x.real(0, NOTHING))};
        for (Named named : nulls) {
            latest(e, "NULL of " + named.name(), named.call(), NULL);
        }
        latest(e, "CAST of as", x -> x.as(0, 0, BYTES), CAST);
        latest(e, "CAST of times", x -> x.times(4), CAST);
        latest(e, "INDEX of put", x -> x.put(0, 4, 0), INDEX);
        latest(e, "INDEX of at", x -> x.at(0, -1), INDEX);
        latest(e, "SIZE of row", x -> x.row(0, BYTES, -1), SIZE);
        latest(e, "ZERO of root", x -> x.root(0, 3), ZERO);
        latest(e, "ZERO of series", x -> {
            fill(x, 6, BYTES, 0);
            return x.series(6, 0, 1);
        }, ZERO);
        latest(e, "ZERO of interpolate", x -> x.interpolate(2, 2, 0), ZERO);
        e.edge("of two FAULTS the later one", x -> {
            due("row", x.row(0, BYTES, -1), -14);
            due("at", x.at(0, 0), 0);
            due("fault()", x.fault(), NULL);
        });
    }

    private static void latest(Edges e, String what, Edges.Call call, int fault) {
        e.edge(what, x -> {
            ConvolutionBench y = Table.laid();
            due("fault() ahead", y.fault(), 0);
            call.on(y);
            due("fault()", y.fault(), fault);
            due("fault() again", y.fault(), fault);
        });
    }

    private static void faultIsOver(Edges e) {
        e.words("0: it came to none, or was refused");
        Named[] named = {
            new Named("row", x -> x.row(0, BYTES, 1)), new Named("put", x -> x.put(0, 0, 1)), new Named("at", x -> x.at(0, 0)),
            new Named("as", x -> x.as(0, 0, INTS)), new Named("reverse", x -> x.reverse(0)),
            new Named("shift", x -> x.shift(0, 1)), new Named("root", x -> x.root(0, 1)),
            new Named("transform", x -> x.transform(0, 0)), new Named("times", x -> x.times(0)),
            new Named("multiply by way 0", x -> x.multiply(0, 1, 0)), new Named("multiply by way 1", x -> x.multiply(0, 1, 1)),
            new Named("multiply by way 2", x -> x.multiply(0, 1, 2)), new Named("circular", x -> x.circular(0, 1, 3)),
            new Named("correlate", x -> x.correlate(0, 1)), new Named("slide", x -> x.slide(3, 1)),
            new Named("slide over too few", x -> x.slide(3, 3)), new Named("power", x -> x.power(0, 0, 2, 2)),
            new Named("series", x -> x.series(0, 0, 2)), new Named("divide", x -> x.divide(0, 1, 0)),
            new Named("evaluate", x -> x.evaluate(0, 1, 0)), new Named("interpolate", x -> x.interpolate(0, 0, 0)),
            new Named("match", x -> x.match(0, 1, 0)), new Named("match without fits", x -> x.match(1, 0, 0)),
            new Named("real", x -> x.real(0, 4)),
            new Named("row, UNKNOWN", x -> x.row(12, BYTES, 1)), new Named("row, OUTSIDE", x -> x.row(0, BYTES, 0)),
            new Named("put, UNKNOWN", x -> x.put(12, 0, 1)), new Named("at, UNKNOWN", x -> x.at(12, 0)),
            new Named("as, UNKNOWN", x -> x.as(12, 0, 0)), new Named("as, OUTSIDE", x -> x.as(0, 0, 5)),
            new Named("reverse, UNKNOWN", x -> x.reverse(12)), new Named("shift, UNKNOWN", x -> x.shift(12, 0)),
            new Named("root, UNKNOWN", x -> x.root(3, 1)), new Named("root, OUTSIDE", x -> x.root(0, 65)),
            new Named("transform, UNKNOWN", x -> x.transform(0, 3)), new Named("transform, STATE", x -> x.transform(2, 0)),
            new Named("times, UNKNOWN", x -> x.times(12)), new Named("times, STATE", x -> x.times(1)),
            new Named("multiply, UNKNOWN", x -> x.multiply(12, 0, 0)), new Named("multiply, OUTSIDE", x -> x.multiply(0, 0, 3)),
            new Named("multiply, STATE", x -> {
                fill(x, 6, INTS, MIN);
                x.root(0, 3);
                return x.multiply(6, 6, 1);
            }),
            new Named("circular, UNKNOWN", x -> x.circular(12, 0, 1)), new Named("circular, OUTSIDE", x -> x.circular(0, 0, 0)),
            new Named("correlate, UNKNOWN", x -> x.correlate(0, 12)), new Named("slide, UNKNOWN", x -> x.slide(12, 1)),
            new Named("slide, OUTSIDE", x -> x.slide(0, 0)), new Named("power, UNKNOWN", x -> x.power(0, 3, 1, 1)),
            new Named("power, OUTSIDE", x -> x.power(0, 0, 1001, 1)), new Named("series, UNKNOWN", x -> x.series(0, 3, 1)),
            new Named("series, OUTSIDE", x -> x.series(0, 0, 0)), new Named("divide, UNKNOWN", x -> x.divide(0, 0, 3)),
            new Named("evaluate, UNKNOWN", x -> x.evaluate(0, 0, 3)),
            new Named("interpolate, UNKNOWN", x -> x.interpolate(0, 0, 3)),
            new Named("interpolate, STATE", x -> x.interpolate(0, 1, 0)), new Named("match, UNKNOWN", x -> x.match(0, 12, 0)),
            new Named("real, UNKNOWN", x -> x.real(12, 0))};
        for (Named one : named) {
            behindZero(e, one, 0);
        }
    }

    private static void behindZero(Edges e, Named named, int fault) {
        e.edge(named.name(), x -> {
            ConvolutionBench y = Table.laid();
            due("root", y.root(0, 3), 0);
            due("fault() ahead", y.fault(), ZERO);
            named.call().on(y);
            due("fault() behind", y.fault(), fault);
        });
    }

    private static void faultIsKept(Edges e) {
        e.words("of the latest call that names one");
        Named[] named = {
            new Named("share", x -> x.share(6, 0)), new Named("share, UNKNOWN", x -> x.share(12, 0)),
            new Named("kind", x -> x.kind(0, 0)), new Named("kind, UNKNOWN", x -> x.kind(12, 0)),
            new Named("kind, OUTSIDE", x -> x.kind(0, 2)), new Named("kind, NONE", x -> x.kind(NOTHING, 0)),
            new Named("value", x -> x.value(0)), new Named("value, UNKNOWN", x -> x.value(4)),
            new Named("inverse", x -> x.inverse(6)), new Named("inverse, UNKNOWN", x -> x.inverse(12)),
            new Named("high", x -> x.high(0)), new Named("high, UNKNOWN", x -> x.high(7)),
            new Named("low", x -> x.low(0)), new Named("low, UNKNOWN", x -> x.low(7)),
            new Named("carry", x -> x.carry(6, 10)), new Named("carry, UNKNOWN", x -> x.carry(12, 10)),
            new Named("carry, OUTSIDE", x -> x.carry(6, 1)),
            new Named("cost", x -> x.cost(0, 1, 1)), new Named("cost, UNKNOWN", x -> x.cost(3, 1, 1)),
            new Named("cost, OUTSIDE", x -> x.cost(0, 0, 1)), new Named("plan", x -> x.plan(1, 1)),
            new Named("plan, OUTSIDE", x -> x.plan(0, 1)), new Named("residue", x -> x.residue(0)),
            new Named("residue, UNKNOWN", x -> x.residue(2)), new Named("rest", x -> x.rest(0)),
            new Named("rest, UNKNOWN", x -> x.rest(2)), new Named("matchAt", x -> x.matchAt(0)),
            new Named("matchAt, NONE", x -> x.matchAt(1)), new Named("realAt", x -> x.realAt(0)),
            new Named("realAt, UNKNOWN", x -> x.realAt(5)), new Named("fault", x -> x.fault()),
            new Named("told", x -> x.told(0)), new Named("told, OUTSIDE", x -> x.told(7))};
        for (Named one : named) {
            behindZero(e, new Named("not " + one.name(), one.call()), ZERO);
        }
        e.words("(0 ahead of any).");
        e.edge("a new object", x -> due("fault()", x.fault(), 0));
        e.edge("behind calls that name none alone", x -> {
            due("kind", x.kind(12, 0), UNKNOWN);
            due("inverse", x.inverse(0), STATE);
            due("carry", x.carry(0, 10), STATE);
            due("fault()", x.fault(), 0);
        });
    }

    private static void told(Edges e) {
        e.promise(36);
        e.words("How many: 0 values of THE SPECTRUM");
        counts(e, 0, "1 value", x -> x.row(0, BYTES, 1), x -> x.transform(0, 0), 1);
        counts(e, 0, "64 values", x -> x.row(0, BYTES, 64), x -> x.transform(0, 2), 64);
        e.words("1 its PRIME (NONE: there is none)");
        for (int q = 0; q < 3; q++) {
            int prime = q;
            e.edge("PRIME " + q, x -> {
                due("row", x.row(0, BYTES, 1), 1);
                due("transform", x.transform(0, prime), 1);
                due("told(1)", x.told(1), prime);
            });
        }
        e.edge("there is none", x -> due("told(1)", x.told(1), NONE));
        e.edge("there is none behind a transform that was refused", x -> {
            due("row", x.row(0, BYTES, 3), 1);
            due("transform", x.transform(0, 1), STATE);
            due("told(1)", x.told(1), NONE);
        });
        e.words("2 entries of THE PRODUCT");
        counts(e, 2, "1 entry", x -> x.row(0, BYTES, 1), x -> x.multiply(0, 0, 0), 1);
        counts(e, 2, "127 entries by way 0", x -> x.row(0, BYTES, 64), x -> x.multiply(0, 0, 0), 127);
        counts(e, 2, "127 entries by way 1", x -> x.row(0, BYTES, 64), x -> x.multiply(0, 0, 1), 127);
        counts(e, 2, "127 entries by way 2", x -> x.row(0, BYTES, 64), x -> x.multiply(0, 0, 2), 127);
        counts(e, 2, "64 entries around", x -> x.row(0, BYTES, 1), x -> x.circular(0, 0, 64), 64);
        counts(e, 2, "127 entries alongside", x -> x.row(0, BYTES, 64), x -> x.correlate(0, 0), 127);
        counts(e, 2, "64 sums", x -> x.row(0, BYTES, 64), x -> x.slide(0, 1), 64);
        counts(e, 2, "no sums", x -> x.row(0, BYTES, 1), x -> x.slide(0, 2), 0);
        e.words("3 of THE RESIDUES");
        counts(e, 3, "64 of a power", x -> x.row(0, BYTES, 1), x -> x.power(0, 0, 0, 64), 64);
        counts(e, 3, "1 of a power", x -> x.row(0, BYTES, 64), x -> x.power(0, 0, 0, 1), 1);
        counts(e, 3, "64 of a series", x -> fill(x, 0, BYTES, 1), x -> x.series(0, 0, 64), 64);
        counts(e, 3, "64 of a quotient", x -> fill(x, 0, BYTES, only(64, 0, 1)), x -> x.divide(0, 0, 0), 64);
        counts(e, 3, "none of a quotient", x -> fill(x, 0, BYTES, 0, 1), x -> {
            x.row(1, BYTES, 1);
            return x.divide(1, 0, 0);
        }, 0);
        counts(e, 3, "64 values", x -> x.row(0, BYTES, 64), x -> x.evaluate(0, 0, 0), 64);
        counts(e, 3, "64 of a polynomial", x -> fill(x, 0, BYTES, rising(64, 0)), x -> x.interpolate(0, 0, 0), 64);
        e.words("4 of THE RESTS");
        counts(e, 4, "63 rests", x -> fill(x, 0, BYTES, only(64, 63, 1)), x -> x.divide(0, 0, 0) + 62, 63);
        counts(e, 4, "no rests", x -> fill(x, 0, BYTES, 1), x -> x.divide(0, 0, 0) - 1, 0);
        e.words("5 FITS");
        counts(e, 5, "1 fit", x -> x.row(0, BYTES, 64), x -> x.match(0, 0, 0), 1);
        counts(e, 5, "64 fits", x -> fill(x, 1, BYTES, 0), x -> {
            x.row(0, BYTES, 64);
            return x.match(0, 1, 9);
        }, 64);
        counts(e, 5, "no fits", x -> fill(x, 0, BYTES, 1, 2), x -> {
            x.row(1, BYTES, 3);
            return x.match(0, 1, 9);
        }, 0);
        e.words("6 REALS.");
        counts(e, 6, "1 real", x -> x.row(0, DOUBLES, 1), x -> x.real(0, 0), 1);
        counts(e, 6, "127 reals", x -> x.row(0, DOUBLES, 64), x -> x.real(0, 0), 127);
    }

    /** A call answers how many it has made, and told() tells it from then on. */
    private static void counts(Edges e, int what, String name, Edges.Act ahead, Edges.Call call, int want) {
        e.edge(name, x -> {
            due("told at first", x.told(what), 0);
            ahead.on(x);
            due("how many", call.on(x), want);
            due("told", x.told(what), want);
            due("told again", x.told(what), want);
        });
    }

    private static void toldRefused(Edges e) {
        e.words("OUTSIDE.");
        for (int what : new int[] {-1, 7, 8, MIN, MAX}) {
            e.refused("what is " + what, OUTSIDE, x -> x.told(what));
            e.edge("what is " + what + ", a new object", x -> due("told", x.told(what), OUTSIDE));
        }
    }
}
