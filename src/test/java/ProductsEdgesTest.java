import java.math.BigInteger;

/** The boundary cases of promises 15 to 20: multiply, circular, correlate, slide, high, low. */
public final class ProductsEdgesTest extends EdgeNames {
    private static final long TWO_62 = 1L << 62;

    public static void main(String[] args) {
        Edges e = new Edges();
        list(e);
        e.run("ProductsEdgesTest");
    }

    static void list(Edges e) {
        multiply(e);
        multiplyOfTheGreatest(e);
        multiplyRefused(e);
        onePrimeTakes(e);
        onePrimeRefuses(e);
        circular(e);
        circularRefused(e);
        correlate(e);
        slide(e);
        slideRefused(e);
        halves(e, 19, "Of entry i of THE PRODUCT the upper 64 bits of 128 (with sign).", "0: UNKNOWN.", true);
        halves(e, 20, "The lower 64 bits.", "0: UNKNOWN.", false);
    }

    private static BigInteger big(long v) {
        return BigInteger.valueOf(v);
    }

    private static BigInteger power(int exponent) {
        return BigInteger.ONE.shiftLeft(exponent);
    }

    private static void dueEntry(ConvolutionBench x, int k, BigInteger want) {
        due("high(" + k + ") of " + want, x.high(k), want.shiftRight(64).longValue());
        due("low(" + k + ") of " + want, x.low(k), want.longValue());
    }

    private static void multiply(Edges e) {
        e.promise(15);
        for (int w = 0; w < 3; w++) {
            int way = w;
            e.words("THE PRODUCT of two ROWS, by way 0, 1, 2 (all give the same)");
            e.edge("one ENTRY by one, way " + way, x -> {
                fill(x, 0, BYTES, -7);
                fill(x, 1, SHORTS, 5);
                due("multiply", x.multiply(0, 1, way), 1);
                due("fault()", x.fault(), 0);
                Rows.dueProduct("multiply", x, -35);
            });
            e.edge("signs of all kinds, way " + way, x -> {
                fill(x, 0, BYTES, 1, -2, 0, 3);
                fill(x, 1, INTS, -4, 0, 5);
                due("multiply", x.multiply(0, 1, way), 6);
                Rows.dueProduct("multiply", x, -4, 8, 5, -22, 0, 15);
            });
            e.edge("a ROW by itself, way " + way, x -> {
                fill(x, 0, BYTES, -128, 127);
                due("multiply", x.multiply(0, 0, way), 3);
                Rows.dueProduct("multiply", x, 16384, -32512, 16129);
            });
            e.edge("ROWS of 0s, way " + way, x -> {
                fill(x, 0, BYTES, 0, 0);
                due("multiply", x.multiply(0, 0, way), 3);
                Rows.dueProduct("multiply", x, 0, 0, 0);
            });
            e.edge("in place of a longer one, way " + way, x -> {
                fill(x, 0, BYTES, 9, 9, 9);
                fill(x, 1, BYTES, 2);
                due("multiply", x.multiply(0, 0, 2), 5);
                due("multiply", x.multiply(1, 1, way), 1);
                Rows.dueProduct("multiply", x, 4);
            });
            e.words("entry k is the sum of x(i) y(j) with i + j = k: how many entries.");
            for (int[] pair : new int[][] {{1, 64}, {64, 1}, {2, 64}, {64, 64}, {32, 33}, {33, 33}}) {
                e.edge(pair[0] + " by " + pair[1] + " ENTRIES, way " + way, x -> allOnes(x, pair[0], pair[1], way));
            }
            e.edge("the last entry of 127, way " + way, x -> {
                fill(x, 0, BYTES, only(64, 63, -3));
                due("multiply", x.multiply(0, 0, way), 127);
                due("low(125)", x.low(125), 0);
                due("low(126)", x.low(126), 9);
                due("low(127)", x.low(127), 0);
            });
        }
    }

    private static void allOnes(ConvolutionBench x, int n, int m, int way) {
        fill(x, 0, BYTES, all(n, 1));
        fill(x, 1, BYTES, all(m, -1));
        int count = n + m - 1;
        due("multiply", x.multiply(0, 1, way), count);
        long[] want = new long[count];
        for (int k = 0; k < count; k++) {
            want[k] = -Math.min(Math.min(k + 1, count - k), Math.min(n, m));
        }
        Rows.dueProduct("multiply", x, want);
    }

    private static void multiplyOfTheGreatest(Edges e) {
        e.words("entry k is the sum of x(i) y(j) with i + j = k: how many entries.");
        for (int way : new int[] {0, 2}) {
            e.edge("the least INTS by themselves, 64 times, way " + way, x -> {
                fill(x, 0, INTS, all(64, MIN));
                due("multiply", x.multiply(0, 0, way), 127);
                for (int k : new int[] {0, 1, 2, 3, 62, 63, 64, 126}) {
                    dueEntry(x, k, power(62).multiply(big(Math.min(k + 1, 127 - k))));
                }
            });
            e.edge("the least by the greatest INTS, 64 times, way " + way, x -> {
                fill(x, 0, INTS, all(64, MIN));
                fill(x, 1, INTS, all(64, MAX));
                due("multiply", x.multiply(0, 1, way), 127);
                for (int k : new int[] {0, 1, 2, 63, 126}) {
                    dueEntry(x, k, big(MIN).multiply(big(MAX)).multiply(big(Math.min(k + 1, 127 - k))));
                }
            });
            e.edge("a sum that is 2 to the 63, way " + way, x -> {
                fill(x, 0, INTS, MIN, MIN);
                due("multiply", x.multiply(0, 0, way), 3);
                dueEntry(x, 1, power(63));
            });
            e.edge("a sum that comes back to 0, way " + way, x -> {
                fill(x, 0, INTS, MIN, MIN);
                fill(x, 1, INTS, MAX, -MAX);
                due("multiply", x.multiply(0, 1, way), 3);
                dueEntry(x, 1, BigInteger.ZERO);
            });
        }
    }

    private static void multiplyRefused(Edges e) {
        for (int w = 0; w < 3; w++) {
            int way = w;
            e.words("UNKNOWN");
            for (int p : NO_PLACES) {
                e.refused("a is " + p + ", way " + way, UNKNOWN, x -> x.multiply(p, 0, way));
                e.refused("b is " + p + ", way " + way, UNKNOWN, x -> x.multiply(0, p, way));
            }
            e.words("NULL: a, b");
            e.faulted("a has nothing, way " + way, NULL, x -> x.multiply(NOTHING, 0, way));
            e.faulted("b has nothing, way " + way, NULL, x -> x.multiply(0, NOTHING, way));
            e.faulted("both have nothing, way " + way, NULL, x -> x.multiply(NOTHING, NOTHING, way));
            e.faulted("b has nothing, ahead of a's CAST, way " + way, NULL, x -> x.multiply(3, NOTHING, way));
            e.faulted("a has nothing, ahead of b's CAST, way " + way, NULL, x -> x.multiply(NOTHING, 4, way));
            e.words("CAST: a, then b is not SMALL");
            for (int p : new int[] {3, 4}) {
                e.faulted("a is of LANE " + p + ", way " + way, CAST, x -> x.multiply(p, 0, way));
                e.faulted("b is of LANE " + p + ", way " + way, CAST, x -> x.multiply(0, p, way));
                e.faulted("both are of LANE " + p + ", way " + way, CAST, x -> x.multiply(p, p, way));
            }
        }
        e.words("OUTSIDE: way");
        for (int way : new int[] {-1, 3, MIN, MAX}) {
            e.refused("way " + way, OUTSIDE, x -> x.multiply(0, 1, way));
            e.refused("way " + way + ", ahead of NULL", OUTSIDE, x -> x.multiply(NOTHING, NOTHING, way));
            e.refused("way " + way + ", ahead of CAST", OUTSIDE, x -> x.multiply(3, 4, way));
            e.refused("way " + way + ", behind UNKNOWN", UNKNOWN, x -> x.multiply(12, 0, way));
        }
    }

    private static final String ONE_PRIME = "STATE: by way 1, and twice the number of ENTRIES of the shorter one, times the"
        + " greatest size (without sign) in a, times that in b is not below 998244353.";

    /** A row for each of a and b, and that way 1 takes or refuses them; the ways 0 and 2 always take them. */
    private static void onePrime(Edges e, String what, boolean taken, long[] a, long[] b) {
        Edges.Act ahead = x -> {
            fill(x, 6, INTS, a);
            fill(x, 7, INTS, b);
        };
        if (!taken) {
            e.refusedBehind(what, ahead, STATE, x -> x.multiply(6, 7, 1));
            e.refusedBehind(what + ", a and b changed", ahead, STATE, x -> x.multiply(7, 6, 1));
        }
        e.edge(what + (taken ? ": taken" : ": the ways 0 and 2 take it"), x -> {
            ahead.on(x);
            for (int way : taken ? new int[] {0, 1, 2} : new int[] {0, 2}) {
                due("multiply by way " + way, x.multiply(6, 7, way), a.length + b.length - 1);
                due("fault()", x.fault(), 0);
                dueEntry(x, 0, big(a[0]).multiply(big(b[0])));
                dueEntry(x, a.length + b.length - 2, big(a[a.length - 1]).multiply(big(b[b.length - 1])));
            }
        });
    }

    private static void onePrimeTakes(Edges e) {
        e.words(ONE_PRIME);
        onePrime(e, "2 * 1 * 499122176 * 1 is 998244352", true, new long[] {499122176}, new long[] {1});
        onePrime(e, "2 * 1 * 499122176 * 1, below 0", true, new long[] {-499122176}, new long[] {1});
        onePrime(e, "2 * 1 * 1 * 499122176, below 0 both", true, new long[] {-1}, new long[] {-499122176});
        onePrime(e, "2 * 2 * 15797 * 15798 is below", true, new long[] {15797, -15797}, new long[] {15798, 15798});
        onePrime(e, "the shorter one has 1 of 64", true, all(64, 499122176), new long[] {-1});
        onePrime(e, "the shorter one has 2 of 64", true, all(64, 249561088), new long[] {-1, 1});
        onePrime(e, "64 by 64, 2 * 64 * 2792 * 2793 is below", true, all(64, 2792), all(64, -2793));
        onePrime(e, "the least INT by 0", true, new long[] {MIN, MIN}, new long[] {0, 0});
        onePrime(e, "0 by the least INT", true, new long[] {0}, new long[] {MIN});
        e.edge("the greatest sum that way 1 takes", x -> {
            fill(x, 0, INTS, 15797, -15797);
            fill(x, 1, INTS, 15798, -15798);
            due("multiply", x.multiply(0, 1, 1), 3);
            Rows.dueProduct("multiply", x, 249561006, -499122012, 249561006);
        });
    }

    private static void onePrimeRefuses(Edges e) {
        onePrime(e, "2 * 1 * 499122177 * 1 is 998244354", false, new long[] {499122177}, new long[] {1});
        onePrime(e, "2 * 1 * 499122177 * 1, below 0", false, new long[] {-499122177}, new long[] {1});
        onePrime(e, "2 * 2 * 15797 * 15799 is not below", false, new long[] {15797, 0}, new long[] {0, 15799});
        onePrime(e, "the greatest size is the last one, below 0", false, new long[] {1, 1, -249561089}, new long[] {1, 1});
        onePrime(e, "the shorter one has 2 of 3", false, new long[] {249561089, 0}, new long[] {1, 0, 0});
        onePrime(e, "64 by 64, 2 * 64 * 2793 * 2793 is not below", false, all(64, 2793), all(64, 2793));
        onePrime(e, "the least INT by 1: its size is 2147483648", false, new long[] {MIN}, new long[] {1});
        onePrime(e, "the least INT by itself", false, new long[] {MIN}, new long[] {MIN});
        // in 64 bits these come around to 0, or to what is below the PRIME
        onePrime(e, "2 * 2 * 2^31 * 2^31 is 2^64", false, all(2, MIN), all(2, MIN));
        onePrime(e, "2 * 64 * 2^31 * 2^31 is 2^69", false, all(64, MIN), all(64, MIN));
        onePrime(e, "2 * 32 * 2^31 * 2^27 is 2^64", false, all(32, MIN), all(32, 1 << 27));
        onePrime(e, "2 * 1 * 2^31 * 2^31 is 2^63", false, new long[] {MIN}, all(64, MIN));
        // 2147483648 times 2 is 2^32: in 32 bits it would be 0
        onePrime(e, "2 * 1 * 2^30 * 2 is 2^32", false, new long[] {1 << 30}, new long[] {2});
    }

    private static void circular(Edges e) {
        e.promise(16);
        e.words("THE PRODUCT's entry i of n is the sum of x(j) y(k) with j + k = i, or that and a multiple of n: n.");
        long[][] want = {{180}, {80, 100}, {70, 40, 70}, {10, 40, 70, 60}, {10, 40, 70, 60, 0}};
        for (int n = 1; n <= want.length; n++) {
            int around = n;
            e.edge("3 by 2 ENTRIES, n is " + n, x -> {
                fill(x, 0, BYTES, 1, 2, 3);
                fill(x, 1, INTS, 10, 20);
                due("circular", x.circular(0, 1, around), around);
                due("fault()", x.fault(), 0);
                Rows.dueProduct("circular", x, want[around - 1]);
            });
        }
        e.edge("1 by 1 ENTRY, n is 64", x -> {
            fill(x, 0, BYTES, -3);
            due("circular", x.circular(0, 0, 64), 64);
            Rows.dueProduct("circular", x, only(64, 0, 9));
        });
        e.edge("64 by 64 ENTRIES, n is 64: each entry has 64 parts", x -> {
            fill(x, 0, BYTES, all(64, 1));
            due("circular", x.circular(0, 0, 64), 64);
            Rows.dueProduct("circular", x, all(64, 64));
        });
        e.edge("64 by 64 ENTRIES, n is 63: the last ones come twice around", x -> {
            fill(x, 0, BYTES, only(64, 63, 1));
            due("circular", x.circular(0, 0, 63), 63);
            Rows.dueProduct("circular", x, only(63, 0, 1));
        });
        e.edge("64 by 64 of the least INTS, n is 1", x -> {
            fill(x, 0, INTS, all(64, MIN));
            due("circular", x.circular(0, 0, 1), 1);
            dueEntry(x, 0, power(74));
            due("told(2)", x.told(2), 1);
        });
        e.edge("64 by 64 of the least and the greatest INTS, n is 1", x -> {
            fill(x, 0, INTS, all(64, MIN));
            fill(x, 1, INTS, all(64, MAX));
            due("circular", x.circular(0, 1, 1), 1);
            dueEntry(x, 0, big(MIN).multiply(big(MAX)).multiply(big(4096)));
        });
    }

    private static void circularRefused(Edges e) {
        e.words("UNKNOWN");
        for (int p : NO_PLACES) {
            e.refused("a is " + p, UNKNOWN, x -> x.circular(p, 0, 1));
            e.refused("b is " + p, UNKNOWN, x -> x.circular(0, p, 1));
            e.refused("a is " + p + ", ahead of OUTSIDE", UNKNOWN, x -> x.circular(p, 0, 0));
        }
        e.words("OUTSIDE: n is not 1 .. 64");
        for (int n : NO_COUNTS) {
            e.refused("n is " + n, OUTSIDE, x -> x.circular(0, 1, n));
            e.refused("n is " + n + ", ahead of NULL", OUTSIDE, x -> x.circular(NOTHING, 0, n));
            e.refused("n is " + n + ", ahead of CAST", OUTSIDE, x -> x.circular(0, 3, n));
        }
        e.words("NULL");
        e.faulted("a has nothing", NULL, x -> x.circular(NOTHING, 0, 1));
        e.faulted("b has nothing", NULL, x -> x.circular(0, NOTHING, 1));
        e.faulted("b has nothing, ahead of a's CAST", NULL, x -> x.circular(3, NOTHING, 1));
        e.words("CAST, as multiply().");
        for (int p : new int[] {3, 4}) {
            e.faulted("a is of LANE " + p, CAST, x -> x.circular(p, 0, 64));
            e.faulted("b is of LANE " + p, CAST, x -> x.circular(0, p, 64));
        }
        for (int p : new int[] {0, 1, 2}) {
            e.edge("SMALL ones are taken: place " + p + " of the laid table", x -> {
                ConvolutionBench y = Table.laid();
                due("circular", y.circular(p, p, 1), 1);
                due("fault()", y.fault(), 0);
            });
        }
    }

    private static void correlate(Edges e) {
        e.promise(17);
        e.words("THE PRODUCT's entry i is the sum over j of x(j + i - (m - 1)) y(j), as far as there are such, y having m"
            + " ENTRIES: how many (as of multiply()).");
        correlated(e, "one by one", new long[] {-3}, new long[] {7}, -21);
        correlated(e, "3 by 2", new long[] {1, 2, 3}, new long[] {10, 20}, 20, 50, 80, 30);
        correlated(e, "2 by 3", new long[] {10, 20}, new long[] {1, 2, 3}, 30, 80, 50, 20);
        correlated(e, "1 by 3: y in the other order", new long[] {1}, new long[] {4, 5, 6}, 6, 5, 4);
        correlated(e, "3 by 1: x in its order", new long[] {4, 5, 6}, new long[] {1}, 4, 5, 6);
        correlated(e, "by itself", new long[] {1, 2}, new long[] {1, 2}, 2, 5, 2);
        correlated(e, "64 by 64, the first by the first", only(64, 0, 2), only(64, 0, 3), only(127, 63, 6));
        correlated(e, "64 by 64, the first by the last", only(64, 0, 2), only(64, 63, 3), only(127, 0, 6));
        correlated(e, "64 by 64, the last by the first", only(64, 63, 2), only(64, 0, 3), only(127, 126, 6));
        e.edge("64 by 64 of the least INTS", x -> {
            fill(x, 0, INTS, all(64, MIN));
            due("correlate", x.correlate(0, 0), 127);
            dueEntry(x, 0, power(62));
            dueEntry(x, 63, power(68));
            dueEntry(x, 126, power(62));
        });
        e.words("UNKNOWN");
        for (int p : NO_PLACES) {
            e.refused("a is " + p, UNKNOWN, x -> x.correlate(p, NOTHING));
            e.refused("b is " + p, UNKNOWN, x -> x.correlate(NOTHING, p));
        }
        e.words("NULL");
        e.faulted("a has nothing", NULL, x -> x.correlate(NOTHING, 3));
        e.faulted("b has nothing", NULL, x -> x.correlate(3, NOTHING));
        e.faulted("both have nothing", NULL, x -> x.correlate(NOTHING, NOTHING));
        e.words("CAST, as multiply().");
        for (int p : new int[] {3, 4}) {
            e.faulted("a is of LANE " + p, CAST, x -> x.correlate(p, 0));
            e.faulted("b is of LANE " + p, CAST, x -> x.correlate(0, p));
        }
    }

    private static void correlated(Edges e, String what, long[] a, long[] b, long... want) {
        e.edge(what, x -> {
            fill(x, 0, SHORTS, a);
            fill(x, 1, INTS, b);
            due("correlate", x.correlate(0, 1), want.length);
            due("fault()", x.fault(), 0);
            Rows.dueProduct("correlate", x, want);
        });
    }

    private static void slide(Edges e) {
        e.promise(18);
        e.words("THE PRODUCT's entries are the sums of each w ENTRIES that follow one another: how many (0, if there are not w).");
        long[][] want = {{5, -7, 9}, {-2, 2}, {7}, {}, {}};
        for (int w = 1; w <= want.length; w++) {
            int wide = w;
            for (int lane = 0; lane < 4; lane++) {
                int of = lane;
                e.edge("3 ENTRIES of LANE " + lane + ", w is " + w, x -> {
                    fill(x, 0, of, 5, -7, 9);
                    due("slide", x.slide(0, wide), want[wide - 1].length);
                    due("fault()", x.fault(), 0);
                    Rows.dueProduct("slide", x, want[wide - 1]);
                });
            }
        }
        e.edge("1 ENTRY, w is 1", x -> {
            fill(x, 0, LONGS, Long.MIN_VALUE);
            due("slide", x.slide(0, 1), 1);
            Rows.dueProduct("slide", x, Long.MIN_VALUE);
        });
        e.edge("1 ENTRY, w is 64", x -> {
            fill(x, 0, LONGS, 1);
            due("slide", x.slide(0, 64), 0);
            Rows.dueProduct("slide", x);
        });
        e.edge("64 ENTRIES, w is 1", x -> {
            fill(x, 0, BYTES, rising(64, -32));
            due("slide", x.slide(0, 1), 64);
            Rows.dueProduct("slide", x, rising(64, -32));
        });
        e.edge("63 ENTRIES, w is 64", x -> {
            fill(x, 0, BYTES, all(63, 1));
            due("slide", x.slide(0, 64), 0);
        });
        e.edge("64 of the least LONGS, w is 64", x -> {
            fill(x, 0, LONGS, all(64, Long.MIN_VALUE));
            due("slide", x.slide(0, 64), 1);
            dueEntry(x, 0, power(69).negate());
        });
        e.edge("64 of the greatest LONGS, w is 64 and 63", x -> {
            fill(x, 0, LONGS, all(64, Long.MAX_VALUE));
            due("slide", x.slide(0, 64), 1);
            dueEntry(x, 0, big(Long.MAX_VALUE).multiply(big(64)));
            due("slide", x.slide(0, 63), 2);
            dueEntry(x, 1, big(Long.MAX_VALUE).multiply(big(63)));
        });
        e.edge("0 entries take the place of those that were there", x -> {
            fill(x, 0, BYTES, 1, 2);
            due("slide", x.slide(0, 1), 2);
            due("slide", x.slide(0, 3), 0);
            Rows.dueProduct("slide", x);
            due("carry", x.carry(1, 10), STATE);
        });
    }

    private static void slideRefused(Edges e) {
        e.words("UNKNOWN");
        for (int p : NO_PLACES) {
            e.refused("place " + p, UNKNOWN, x -> x.slide(p, 1));
            e.refused("place " + p + ", ahead of OUTSIDE", UNKNOWN, x -> x.slide(p, 0));
        }
        e.words("OUTSIDE: w is not 1 .. 64");
        for (int w : NO_COUNTS) {
            e.refused("w is " + w, OUTSIDE, x -> x.slide(0, w));
            e.refused("w is " + w + ", ahead of NULL", OUTSIDE, x -> x.slide(NOTHING, w));
            e.refused("w is " + w + ", ahead of CAST", OUTSIDE, x -> x.slide(4, w));
        }
        e.words("NULL");
        e.faulted("a place with nothing", NULL, x -> x.slide(NOTHING, 1));
        e.words("CAST: it is not WHOLE.");
        e.faulted("DOUBLES", CAST, x -> x.slide(4, 1));
        e.faulted("DOUBLES, and there are not w", CAST, x -> x.slide(4, 64));
    }

    /** Sums of LONGS by slide() at the borders of 64 bits, and what is beside THE PRODUCT. */
    private static void halves(Edges e, int promise, String told, String unknown, boolean upper) {
        e.promise(promise);
        e.words(told);
        half(e, upper, "0", 0);
        half(e, upper, "1", 1);
        half(e, upper, "-1", -1);
        half(e, upper, "2^63 - 1", Long.MAX_VALUE);
        half(e, upper, "2^63", TWO_62, TWO_62);
        half(e, upper, "2^64 - 1", Long.MAX_VALUE, Long.MAX_VALUE, 1);
        half(e, upper, "2^64", TWO_62, TWO_62, TWO_62, TWO_62);
        half(e, upper, "2^64 + 1", TWO_62, TWO_62, TWO_62, TWO_62, 1);
        half(e, upper, "-2^63", Long.MIN_VALUE);
        half(e, upper, "-2^63 - 1", Long.MIN_VALUE, -1);
        half(e, upper, "-2^64 + 1", Long.MIN_VALUE, Long.MIN_VALUE, 1);
        half(e, upper, "-2^64", Long.MIN_VALUE, Long.MIN_VALUE);
        half(e, upper, "-2^64 - 1", Long.MIN_VALUE, Long.MIN_VALUE, -1);
        e.words(unknown);
        for (int i : new int[] {-1, 7, 8, 126, 127, MIN, MAX}) {
            e.refused("entry " + i + " of 7", 0, x -> upper ? x.high(i) : x.low(i));
        }
        for (int i : new int[] {-1, 0, 1, 127}) {
            e.edge("entry " + i + " of none", x -> due("the half", upper ? x.high(i) : x.low(i), 0));
        }
        e.edge("an entry of the longer one that was there", x -> {
            fill(x, 0, INTS, -1, -1);
            fill(x, 1, INTS, 1);
            due("multiply", x.multiply(0, 1, 0), 2);
            due("multiply", x.multiply(1, 1, 0), 1);
            due("the half", upper ? x.high(1) : x.low(1), 0);
        });
        e.edge("the last of 127, and the one behind it", x -> {
            fill(x, 0, INTS, all(64, -1));
            fill(x, 1, INTS, all(64, 1));
            due("multiply", x.multiply(0, 1, 0), 127);
            due("the last", upper ? x.high(126) : x.low(126), -1);
            due("behind", upper ? x.high(127) : x.low(127), 0);
        });
    }

    private static void half(Edges e, boolean upper, String what, long... parts) {
        e.edge(what, x -> {
            fill(x, 0, LONGS, parts);
            due("slide", x.slide(0, parts.length), 1);
            due("at beside", x.at(0, 64), 0);
            BigInteger sum = BigInteger.ZERO;
            for (long part : parts) {
                sum = sum.add(big(part));
            }
            due("the half", upper ? x.high(0) : x.low(0), upper ? sum.shiftRight(64).longValue() : sum.longValue());
            due("fault() is left alone", x.fault(), INDEX);
        });
    }
}
