/** The boundary cases of promises 28 to 30: interpolate, residue, rest. */
public final class InterpolateEdgesTest extends EdgeNames {
    public static void main(String[] args) {
        Edges e = new Edges();
        list(e);
        e.run("InterpolateEdgesTest");
    }

    static void list(Edges e) {
        interpolate(e);
        interpolateRefused(e);
        interpolateState(e);
        interpolateZero(e);
        residue(e);
        rest(e);
    }

    private static long[] row(long... entries) {
        return entries;
    }

    private static void through(Edges e, String what, int prime, long[] points, long[] values, long... want) {
        e.edge(what + ", PRIME " + prime, x -> {
            fill(x, 0, LONGS, points);
            fill(x, 11, LONGS, values);
            due("interpolate", x.interpolate(0, 11, prime), want.length);
            due("fault()", x.fault(), 0);
            Rows.dueResidues("polynomial", x, want);
        });
    }

    private static void interpolate(Edges e) {
        e.promise(28);
        e.words("THE RESIDUES: the polynomial of less degree than there are points that has these values there: how many.");
        for (int q = 0; q < 3; q++) {
            int prime = q;
            long p = Rows.PRIMES[q];
            through(e, "one point", prime, row(5), row(-7), p - 7);
            through(e, "one point that is the PRIME", prime, row(p), row(7), 7);
            through(e, "two points", prime, row(0, 1), row(3, 5), 3, 2);
            through(e, "three points", prime, row(0, 1, -1), row(1, 6, 2), 1, 2, 3);
            through(e, "points in another order", prime, row(-1, 0, 1), row(2, 1, 6), 1, 2, 3);
            through(e, "values that are alike: 0s behind", prime, row(4, 5, 6), row(9, 9, 9), 9, 0, 0);
            through(e, "values that are 0", prime, row(4, 5, 6), row(0, p, -p), 0, 0, 0);
            through(e, "X: a 0 behind", prime, row(4, 5, 6), row(4, 5, 6), 0, 1, 0);
            through(e, "points and values above the PRIME and below 0", prime, row(p + 1, -p + 2), row(-p + 3, 2 * p + 5), 1, 2);
            through(e, "64 points, X", prime, rising(64, -20), rising(64, -20), only(64, 1, 1));
            through(e, "64 points, one value", prime, rising(64, 100), all(64, -1), only(64, 0, p - 1));
            e.edge("a place that is points and values, PRIME " + prime, x -> {
                fill(x, 0, BYTES, 3, 8);
                due("interpolate", x.interpolate(0, 0, prime), 2);
                Rows.dueResidues("X", x, 0, 1);
            });
            e.edge("64 points, a value at one of them alone, PRIME " + prime, x -> {
                fill(x, 0, BYTES, rising(64, 0));
                fill(x, 1, BYTES, only(64, 63, 1));
                due("interpolate", x.interpolate(0, 1, prime), 64);
                long[] polynomial = new long[64];
                for (int i = 0; i < 64; i++) {
                    polynomial[i] = x.residue(i);
                }
                ConvolutionBench y = new ConvolutionBench();
                fill(y, 0, BYTES, rising(64, 0));
                fill(y, 1, LONGS, polynomial);
                due("evaluate", y.evaluate(1, 0, prime), 64);
                Rows.dueResidues("the values again", y, only(64, 63, 1));
            });
        }
    }

    private static void interpolateRefused(Edges e) {
        e.words("UNKNOWN");
        for (int p : NO_PLACES) {
            e.refused("points is " + p, UNKNOWN, x -> x.interpolate(p, NOTHING, 0));
            e.refused("values is " + p, UNKNOWN, x -> x.interpolate(NOTHING, p, 0));
        }
        for (int prime : NO_PRIMES) {
            e.refused("PRIME " + prime, UNKNOWN, x -> x.interpolate(0, 0, prime));
            e.refused("PRIME " + prime + ", ahead of NULL", UNKNOWN, x -> x.interpolate(NOTHING, NOTHING, prime));
        }
        e.words("NULL");
        e.faulted("points has nothing", NULL, x -> x.interpolate(NOTHING, 0, 0));
        e.faulted("values has nothing", NULL, x -> x.interpolate(0, NOTHING, 0));
        e.faulted("values has nothing, ahead of the points' CAST", NULL, x -> x.interpolate(4, NOTHING, 0));
        e.faulted("values has nothing, ahead of ZERO", NULL, x -> x.interpolate(2, NOTHING, 0));
        e.words("CAST: DOUBLES (points, then values)");
        e.faulted("points, as many as values", CAST, x -> x.interpolate(4, 1, 0));
        e.faulted("values, as many as points", CAST, x -> x.interpolate(1, 4, 0));
        e.faulted("both", CAST, x -> x.interpolate(4, 4, 0));
        e.faulted("points, ahead of STATE", CAST, x -> x.interpolate(4, 0, 0));
        e.faulted("values, ahead of STATE and ZERO", CAST, x -> x.interpolate(2, 4, 0));
    }

    private static void interpolateState(Edges e) {
        e.words("STATE: not as many values as points");
        e.refused("2 points, 4 values", STATE, x -> x.interpolate(1, 0, 0));
        e.refused("4 points, 2 values", STATE, x -> x.interpolate(0, 1, 0));
        e.refused("3 points that are alike, 2 values: ahead of ZERO", STATE, x -> x.interpolate(2, 1, 0));
        e.refusedBehind("1 point, 2 values", x -> fill(x, 6, BYTES, 1), STATE, x -> x.interpolate(6, 1, 0));
        e.refusedBehind("64 points, 63 values", x -> {
            fill(x, 6, BYTES, rising(64, 0));
            fill(x, 7, BYTES, rising(63, 0));
        }, STATE, x -> x.interpolate(6, 7, 0));
        e.refusedBehind("63 points, 64 values", x -> {
            fill(x, 6, BYTES, rising(64, 0));
            fill(x, 7, BYTES, rising(63, 0));
        }, STATE, x -> x.interpolate(7, 6, 0));
    }

    private static void interpolateZero(Edges e) {
        e.words("ZERO: two points are alike over the PRIME.");
        for (int q = 0; q < 3; q++) {
            int prime = q;
            long p = Rows.PRIMES[q];
            alike(e, "the same number", prime, 7, 7);
            alike(e, "0 and the PRIME", prime, 0, p);
            alike(e, "-1 and the PRIME less 1", prime, -1, p - 1);
            alike(e, "the PRIME and less than 0", prime, p, -p);
            alike(e, "the first and the last of four", prime, 1, 2, 3, 1 + 5 * p);
            alike(e, "the last two of three", prime, 1, 2, 2 - p);
            long least = Math.floorMod(Long.MIN_VALUE, p);
            alike(e, "the least LONG and its RESIDUE", prime, Long.MIN_VALUE, least);
            e.faultedBehind("the first and the last of 64, PRIME " + prime, x -> {
                long[] points = rising(64, 0);
                points[63] = p;
                fill(x, 6, LONGS, points);
            }, ZERO, x -> x.interpolate(6, 6, prime));
            e.edge("alike over PRIME " + prime + ", not over the others", x -> {
                fill(x, 0, LONGS, 0, p);
                fill(x, 1, BYTES, 1, 1);
                due("interpolate", x.interpolate(0, 1, (prime + 1) % 3), 2);
                Rows.dueResidues("always 1", x, 1, 0);
                due("interpolate", x.interpolate(0, 1, (prime + 2) % 3), 2);
            });
        }
        e.edge("one point is alike with none", x -> {
            fill(x, 0, BYTES, 0);
            due("interpolate", x.interpolate(0, 0, 0), 1);
        });
    }

    private static void alike(Edges e, String what, int prime, long... points) {
        e.faultedBehind(what + ", PRIME " + prime, x -> {
            fill(x, 6, LONGS, points);
            fill(x, 7, BYTES, rising(points.length, 1));
        }, ZERO, x -> x.interpolate(6, 7, prime));
    }

    private static void residue(Edges e) {
        e.promise(29);
        e.words("Entry i of THE RESIDUES");
        e.edge("the first and the last of 64", x -> {
            fill(x, 0, BYTES, rising(64, 1));
            due("power", x.power(0, 0, 1, 64), 64);
            due("residue(0)", x.residue(0), 1);
            due("residue(63)", x.residue(63), 64);
            due("residue(64)", x.residue(64), -1);
        });
        e.edge("it leaves fault() alone", x -> {
            fill(x, 0, BYTES, 3);
            due("power", x.power(0, 0, 1, 1), 1);
            due("at beside", x.at(0, 1), 0);
            due("residue(0)", x.residue(0), 3);
            due("fault()", x.fault(), INDEX);
        });
        e.words("-1: UNKNOWN.");
        for (int i : new int[] {-1, 2, 3, 63, 64, MIN, MAX}) {
            e.refused("entry " + i + " of 2", -1, x -> x.residue(i));
        }
        for (int i : new int[] {-1, 0, 1}) {
            e.edge("entry " + i + " of none, nothing was made", x -> due("residue", x.residue(i), -1));
        }
        e.edge("entry 0 of none, behind a divide without a quotient", x -> {
            ConvolutionBench y = Table.laid();
            due("residue(0)", y.residue(0) >= 0 ? 1 : 0, 1);
            due("divide", y.divide(1, 0, 0), 0);
            due("residue(0)", y.residue(0), -1);
        });
        e.edge("an entry of the more that were there", x -> {
            fill(x, 0, BYTES, 5, 6);
            due("power", x.power(0, 0, 1, 2), 2);
            due("power", x.power(0, 0, 1, 1), 1);
            due("residue(1)", x.residue(1), -1);
        });
    }

    private static void rest(Edges e) {
        e.promise(30);
        e.words("Entry i of THE RESTS");
        e.edge("the first and the last of 63, the most there are", x -> {
            fill(x, 0, BYTES, rising(64, 1));
            fill(x, 1, BYTES, only(64, 63, 64));
            due("divide", x.divide(0, 1, 0), 1);
            due("rest(0)", x.rest(0), 1);
            due("rest(62)", x.rest(62), 63);
            due("rest(63)", x.rest(63), -1);
        });
        e.edge("it leaves fault() alone", x -> {
            fill(x, 0, BYTES, 3, 1);
            due("divide", x.divide(0, 0, 0), 1);
            due("at beside", x.at(0, 2), 0);
            due("rest(0)", x.rest(0), 0);
            due("fault()", x.fault(), INDEX);
        });
        e.edge("only divide() touches them", x -> {
            ConvolutionBench y = Table.laid();
            long first = y.rest(0);
            due("power", y.power(0, 1, 3, 5), 5);
            due("series", y.series(0, 1, 5), 5);
            due("evaluate", y.evaluate(0, 0, 1), 4);
            due("interpolate", y.interpolate(0, 0, 1), 4);
            due("told(4)", y.told(4), 2);
            due("rest(0)", y.rest(0), first);
        });
        e.words("-1: UNKNOWN.");
        for (int i : new int[] {-1, 2, 3, 63, 64, MIN, MAX}) {
            e.refused("entry " + i + " of 2", -1, x -> x.rest(i));
        }
        for (int i : new int[] {-1, 0, 1}) {
            e.edge("entry " + i + " of none, nothing was made", x -> due("rest", x.rest(i), -1));
        }
        e.edge("entry 0 of none, behind a divide by degree 0", x -> {
            ConvolutionBench y = Table.laid();
            due("rest(0)", y.rest(0) >= 0 ? 1 : 0, 1);
            fill(y, 6, BYTES, 3);
            due("divide", y.divide(0, 6, 0), 4);
            due("rest(0)", y.rest(0), -1);
        });
        e.edge("an entry of the more that were there", x -> {
            ConvolutionBench y = Table.laid();
            due("divide", y.divide(0, 1, 0), 3);
            due("rest(0)", y.rest(0) >= 0 ? 1 : 0, 1);
            due("rest(1)", y.rest(1), -1);
        });
    }
}
