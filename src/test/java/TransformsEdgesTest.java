import java.math.BigInteger;

/** The boundary cases of promises 10 to 14: root, transform, times, value, inverse. */
public final class TransformsEdgesTest extends EdgeNames {
    public static void main(String[] args) {
        Edges e = new Edges();
        list(e);
        e.run("TransformsEdgesTest");
    }

    static void list(Edges e) {
        root(e);
        transform(e);
        transformRefused(e);
        times(e);
        timesRefused(e);
        value(e);
        inverse(e);
    }

    private static boolean divides(int n, int prime) {
        return (Rows.PRIMES[prime] - 1) % n == 0;
    }

    private static void root(Edges e) {
        e.promise(10);
        for (int prime = 0; prime < 3; prime++) {
            for (int n = 1; n <= 64; n++) {
                int of = prime;
                int count = n;
                if (divides(n, prime)) {
                    e.words("The ROOT of a PRIME for n, over the PRIME.");
                    e.edge("PRIME " + prime + " for " + n, x -> {
                        BigInteger p = BigInteger.valueOf(Rows.PRIMES[of]);
                        BigInteger power = BigInteger.valueOf((Rows.PRIMES[of] - 1) / count);
                        due("root", x.root(of, count), BigInteger.valueOf(3).modPow(power, p).longValue());
                        due("fault()", x.fault(), 0);
                    });
                } else {
                    e.words("ZERO: n does not divide P - 1.");
                    e.faulted("PRIME " + prime + " for " + n, ZERO, x -> x.root(of, count));
                }
            }
        }
        e.words("0 (and no FAULT): UNKNOWN");
        for (int prime : NO_PRIMES) {
            e.refused("PRIME " + prime, 0, x -> x.root(prime, 1));
            e.refused("PRIME " + prime + ", and n is 0", 0, x -> x.root(prime, 0));
            e.refused("PRIME " + prime + ", n divides no P - 1", 0, x -> x.root(prime, 3));
        }
        e.words("OUTSIDE: n is not 1 .. 64.");
        for (int prime = 0; prime < 3; prime++) {
            for (int n : new int[] {0, -1, -2, 65, 128, MIN, MAX}) {
                int of = prime;
                e.refused("PRIME " + prime + " for " + n, 0, x -> x.root(of, n));
            }
        }
    }

    private static void transform(Edges e) {
        e.promise(11);
        e.words("THE SPECTRUM is THE TRANSFORM of a ROW: how many values.");
        for (int prime = 0; prime < 3; prime++) {
            int of = prime;
            long p = Rows.PRIMES[prime];
            e.edge("one ENTRY below 0, PRIME " + prime, x -> {
                fill(x, 11, LONGS, Long.MIN_VALUE);
                due("transform", x.transform(11, of), 1);
                Rows.dueSpectrum("transform", x, Math.floorMod(Long.MIN_VALUE, p));
                due("told(1)", x.told(1), of);
            });
            e.edge("two ENTRIES, PRIME " + prime, x -> {
                fill(x, 0, LONGS, 3, 5);
                due("transform", x.transform(0, of), 2);
                Rows.dueSpectrum("transform", x, 8, p - 2);
            });
            e.edge("an ENTRY that is the PRIME, PRIME " + prime, x -> {
                fill(x, 0, INTS, p, p - 1);
                due("transform", x.transform(0, of), 2);
                Rows.dueSpectrum("transform", x, p - 1, 1);
            });
            e.edge("64 ENTRIES, all but the last 0, PRIME " + prime, x -> {
                fill(x, 0, BYTES, only(64, 63, 1));
                due("transform", x.transform(0, of), 64);
                long w = x.root(of, 64);
                long[] want = new long[64];
                for (int j = 0; j < 64; j++) {
                    want[j] = BigInteger.valueOf(w).modPow(BigInteger.valueOf(63L * j), BigInteger.valueOf(p)).longValue();
                }
                Rows.dueSpectrum("transform", x, want);
            });
        }
        e.edge("7 ENTRIES, no power of two", x -> {
            fill(x, 0, BYTES, 1, 2, 3, 4, 5, 6, 7);
            due("transform", x.transform(0, 0), 7);
            due("value(0)", x.value(0), 28);
            due("value(6)", x.value(6), 45232958);
        });
        for (int lane = 0; lane < 4; lane++) {
            int of = lane;
            e.edge("LANE " + lane, x -> {
                fill(x, 0, of, -1, 1);
                due("transform", x.transform(0, 2), 2);
                due("fault()", x.fault(), 0);
                Rows.dueSpectrum("transform", x, 0, P2 - 2);
            });
        }
        e.edge("in place of a longer one of another PRIME", x -> {
            fill(x, 0, BYTES, 1, 2, 3, 4);
            fill(x, 1, BYTES, 9);
            due("transform", x.transform(0, 0), 4);
            due("transform", x.transform(1, 2), 1);
            Rows.dueSpectrum("the new one", x, 9);
            due("told(1)", x.told(1), 2);
        });
        e.edge("the ROW itself stays", x -> {
            fill(x, 0, INTS, -1, MAX);
            due("transform", x.transform(0, 2), 2);
            Rows.dueRow("as it was", x, 0, -1, MAX);
        });
        e.edge("what becomes of the ROW later does not matter", x -> {
            fill(x, 0, INTS, 4, 5);
            due("transform", x.transform(0, 2), 2);
            due("put", x.put(0, 0, 9), 1);
            Rows.dueSpectrum("as it was", x, 9, P2 - 1);
        });
    }

    private static void transformRefused(Edges e) {
        e.words("UNKNOWN");
        for (int p : NO_PLACES) {
            e.refused("place " + p, UNKNOWN, x -> x.transform(p, 0));
        }
        for (int prime : NO_PRIMES) {
            e.refused("PRIME " + prime, UNKNOWN, x -> x.transform(0, prime));
            e.refused("PRIME " + prime + ", ahead of NULL", UNKNOWN, x -> x.transform(NOTHING, prime));
            e.refused("PRIME " + prime + ", ahead of CAST", UNKNOWN, x -> x.transform(4, prime));
        }
        e.words("NULL");
        e.faulted("a place with nothing", NULL, x -> x.transform(NOTHING, 0));
        e.words("CAST: DOUBLES");
        e.faulted("2 DOUBLES", CAST, x -> x.transform(4, 0));
        e.faultedBehind("3 DOUBLES, ahead of STATE", x -> x.row(4, DOUBLES, 3), CAST, x -> x.transform(4, 0));
        e.words("STATE: n does not divide P - 1.");
        for (int prime = 0; prime < 3; prime++) {
            for (int n : new int[] {3, 5, 7, 14, 17, 34, 63}) {
                int of = prime;
                if (divides(n, prime)) continue;
                e.refusedBehind(n + " ENTRIES, PRIME " + prime, x -> x.row(6, BYTES, n), STATE, x -> x.transform(6, of));
            }
        }
    }

    private static void times(Edges e) {
        e.promise(12);
        e.words("THE SPECTRUM's values become themselves times those of THE TRANSFORM of a ROW over its PRIME: how many.");
        for (int prime = 0; prime < 3; prime++) {
            int of = prime;
            long p = Rows.PRIMES[prime];
            e.edge("one value, PRIME " + prime, x -> {
                fill(x, 0, LONGS, p - 1);
                fill(x, 1, INTS, -3);
                due("transform", x.transform(0, of), 1);
                due("times", x.times(1), 1);
                Rows.dueSpectrum("times", x, 3);
                due("told(1)", x.told(1), of);
            });
            e.edge("the greatest values, PRIME " + prime, x -> {
                fill(x, 0, LONGS, -1, 0);
                due("transform", x.transform(0, of), 2);
                due("times", x.times(0), 2);
                Rows.dueSpectrum("times", x, 1, 1);
                due("times", x.times(0), 2);
                Rows.dueSpectrum("times again", x, p - 1, p - 1);
            });
        }
        e.edge("64 values", x -> {
            fill(x, 0, BYTES, only(64, 63, 1));
            fill(x, 1, BYTES, only(64, 2, 5));
            due("transform", x.transform(0, 1), 64);
            due("times", x.times(1), 64);
            due("inverse", x.inverse(2), 64);
            Rows.dueRow("around: 63 and 2 are 1", x, 2, only(64, 1, 5));
        });
        e.edge("a ROW of 0s", x -> {
            fill(x, 0, BYTES, 1, 2);
            fill(x, 1, BYTES, 0, 0);
            due("transform", x.transform(0, 0), 2);
            due("times", x.times(1), 2);
            Rows.dueSpectrum("times", x, 0, 0);
        });
    }

    private static void timesRefused(Edges e) {
        e.words("UNKNOWN");
        for (int p : NO_PLACES) {
            e.refused("place " + p, UNKNOWN, x -> x.times(p));
        }
        e.edge("ahead of STATE", x -> due("times", x.times(12), UNKNOWN));
        e.words("NULL");
        e.faulted("a place with nothing", NULL, x -> x.times(NOTHING));
        e.edge("a place with nothing, ahead of STATE", x -> Rows.dueFault("times", x, x.times(0), NULL));
        e.words("CAST: DOUBLES");
        e.faulted("2 DOUBLES, and THE SPECTRUM has 4 values", CAST, x -> x.times(4));
        e.faultedBehind("as many DOUBLES as it has values", x -> x.row(4, DOUBLES, 4), CAST, x -> x.times(4));
        e.edge("DOUBLES, ahead of there being no SPECTRUM", x -> {
            due("row", x.row(0, DOUBLES, 1), 1);
            Rows.dueFault("times", x, x.times(0), CAST);
        });
        e.words("STATE: there is no SPECTRUM");
        e.edge("one ENTRY", x -> {
            due("row", x.row(0, BYTES, 1), 1);
            Rows.dueRefusal("times", x, x.times(0), STATE);
            due("told(0)", x.told(0), 0);
            due("told(1)", x.told(1), NONE);
        });
        e.words("or the ROW has not as many ENTRIES as it has values.");
        for (int n : new int[] {1, 2, 3, 5, 8, 64}) {
            e.refusedBehind(n + " ENTRIES, 4 values", x -> x.row(6, BYTES, n), STATE, x -> x.times(6));
        }
    }

    private static void value(Edges e) {
        e.promise(13);
        e.words("Value i of THE SPECTRUM");
        e.edge("the first and the last of 64", x -> {
            fill(x, 0, BYTES, only(64, 0, 7));
            due("transform", x.transform(0, 0), 64);
            due("value(0)", x.value(0), 7);
            due("value(63)", x.value(63), 7);
            due("value(64)", x.value(64), UNKNOWN);
        });
        e.edge("it leaves fault() alone", x -> {
            fill(x, 0, BYTES, 7);
            due("transform", x.transform(0, 0), 1);
            due("at beside", x.at(0, 1), 0);
            due("value(0)", x.value(0), 7);
            due("fault()", x.fault(), INDEX);
        });
        e.words("-1: UNKNOWN.");
        for (int i : new int[] {-1, 4, 63, 64, MIN, MAX}) {
            e.refused("value " + i + " of 4", -1, x -> x.value(i));
        }
        for (int i : new int[] {-1, 0, 1}) {
            e.edge("value " + i + " of none", x -> due("value", x.value(i), -1));
        }
        e.edge("a value of the longer one that was there", x -> {
            fill(x, 0, BYTES, 1, 2);
            fill(x, 1, BYTES, 1);
            due("transform", x.transform(0, 0), 2);
            due("transform", x.transform(1, 0), 1);
            due("value(1)", x.value(1), -1);
        });
    }

    private static void inverse(Edges e) {
        e.promise(14);
        e.words("A PLACE has a new ROW of LONGS");
        e.edge("where there was nothing", x -> {
            fill(x, 0, BYTES, 5);
            due("transform", x.transform(0, 0), 1);
            due("inverse", x.inverse(11), 1);
            due("kind", x.kind(11, 0), LONGS);
            Rows.dueRow("inverse", x, 11, 5);
        });
        e.edge("not in the ROW that was there", x -> {
            fill(x, 0, BYTES, -1, 2);
            due("share", x.share(1, 0), 1);
            due("transform", x.transform(0, 0), 2);
            due("inverse", x.inverse(0), 2);
            due("kind", x.kind(0, 0), LONGS);
            Rows.dueRow("the new one", x, 0, P0 - 1, 2);
            due("kind", x.kind(1, 0), BYTES);
            Rows.dueRow("the old one", x, 1, -1, 2);
        });
        e.edge("two of them are two ROWS", x -> {
            fill(x, 0, BYTES, 5);
            due("transform", x.transform(0, 0), 1);
            due("inverse", x.inverse(1), 1);
            due("inverse", x.inverse(2), 1);
            due("put", x.put(1, 0, 9), 1);
            Rows.dueRow("the other", x, 2, 5);
        });
        e.words("what has THE SPECTRUM as its TRANSFORM, RESIDUES all: how many ENTRIES.");
        for (int prime = 0; prime < 3; prime++) {
            for (int n : new int[] {1, 2, 4, 7, 14, 17, 34, 56, 64}) {
                int of = prime;
                if (!divides(n, prime)) continue;
                e.edge(n + " ENTRIES, PRIME " + prime, x -> backAgain(x, n, of));
            }
        }
        e.edge("THE SPECTRUM stays", x -> {
            fill(x, 0, BYTES, 3, 5);
            due("transform", x.transform(0, 1), 2);
            due("inverse", x.inverse(0), 2);
            Rows.dueSpectrum("as it was", x, 8, P1 - 2);
            due("told(1)", x.told(1), 1);
        });
        e.words("UNKNOWN");
        for (int p : NO_PLACES) {
            e.refused("place " + p, UNKNOWN, x -> x.inverse(p));
            e.edge("place " + p + ", ahead of STATE", x -> due("inverse", x.inverse(p), UNKNOWN));
        }
        e.words("STATE: there is no SPECTRUM.");
        e.edge("a new object", x -> {
            fill(x, 0, BYTES, 3);
            due("at beside", x.at(0, 1), 0);
            due("inverse", x.inverse(0), STATE);
            due("fault() is left alone", x.fault(), INDEX);
            due("kind", x.kind(0, 0), BYTES);
            due("inverse", x.inverse(1), STATE);
            due("kind", x.kind(1, 0), NONE);
        });
        e.edge("a transform that was refused makes none", x -> {
            fill(x, 0, BYTES, 3, 4, 5);
            due("transform", x.transform(0, 0), STATE);
            due("inverse", x.inverse(0), STATE);
        });
    }

    private static void backAgain(ConvolutionBench x, int n, int prime) {
        long p = Rows.PRIMES[prime];
        long[] entries = new long[n];
        long[] residues = new long[n];
        for (int i = 0; i < n; i++) {
            entries[i] = i % 2 == 0 ? Long.MIN_VALUE + i * i : p * i - 1;
            residues[i] = Math.floorMod(entries[i], p);
        }
        fill(x, 0, LONGS, entries);
        due("transform", x.transform(0, prime), n);
        due("inverse", x.inverse(1), n);
        Rows.dueRow("RESIDUES", x, 1, residues);
    }
}
