/** The boundary cases of promises 21 to 23: carry, cost, plan. */
public final class DigitsEdgesTest extends EdgeNames {
    public static void main(String[] args) {
        Edges e = new Edges();
        list(e);
        e.run("DigitsEdgesTest");
    }

    static void list(Edges e) {
        carryMakesARow(e);
        carryCounts(e);
        carryRefused(e);
        carryState(e);
        carryFull(e);
        cost(e);
        plan(e);
    }

    /** THE PRODUCT becomes these entries, with a sign, each a long. */
    private static void made(ConvolutionBench x, long... entries) {
        fill(x, 10, LONGS, entries);
        due("slide", x.slide(10, 1), entries.length);
    }

    private static void carried(Edges e, String what, int base, long[] entries, long... digits) {
        e.edge(what, x -> {
            made(x, entries);
            due("carry", x.carry(0, base), digits.length);
            Rows.dueRow("digits", x, 0, digits);
        });
    }

    private static void carryMakesARow(Edges e) {
        e.promise(21);
        e.words("A PLACE has a new ROW of INTS");
        e.edge("where there was nothing", x -> {
            made(x, 12);
            due("carry", x.carry(11, 10), 2);
            due("kind", x.kind(11, 0), INTS);
            Rows.dueRow("digits", x, 11, 2, 1);
        });
        e.edge("not in the ROW that was there", x -> {
            made(x, 12);
            fill(x, 0, BYTES, 7, 8);
            due("share", x.share(1, 0), 1);
            due("carry", x.carry(0, 10), 2);
            due("kind", x.kind(0, 0), INTS);
            due("kind", x.kind(1, 0), BYTES);
            Rows.dueRow("the old one", x, 1, 7, 8);
        });
        e.edge("two of them are two ROWS", x -> {
            made(x, 12);
            due("carry", x.carry(0, 10), 2);
            due("carry", x.carry(1, 10), 2);
            due("put", x.put(0, 0, 9), 1);
            Rows.dueRow("the other", x, 1, 2, 1);
        });
        e.edge("THE PRODUCT and fault() stay", x -> {
            made(x, 12, 34);
            due("at beside", x.at(10, 2), 0);
            due("carry", x.carry(0, 10), 3);
            due("fault()", x.fault(), INDEX);
            Rows.dueProduct("as it was", x, 12, 34);
        });
    }

    private static void carryCounts(Edges e) {
        e.words("the digits, the least first, to a base");
        carried(e, "to 2", 2, new long[] {6}, 0, 1, 1);
        carried(e, "to 10000", 10000, new long[] {99999999}, 9999, 9999);
        carried(e, "to 10000, the first that needs a third", 10000, new long[] {100000000}, 0, 0, 1);
        carried(e, "to 3", 3, new long[] {26}, 2, 2, 2);
        e.words("of the whole number that is the sum of THE PRODUCT's entries k times the base to the k");
        carried(e, "entries that are digits", 10, new long[] {1, 0, 9}, 1, 0, 9);
        carried(e, "entries that are one too great", 10, new long[] {10, 10, 10}, 0, 1, 1, 1);
        carried(e, "a carry that runs through", 10, new long[] {10, 9, 9}, 0, 0, 0, 1);
        carried(e, "a carry behind the last entry", 10, new long[] {99, 99}, 9, 8, 0, 1);
        carried(e, "the greatest LONG", 10000, new long[] {Long.MAX_VALUE}, 5807, 5477, 368, 3372, 922);
        e.edge("an entry above 64 bits", x -> {
            fill(x, 0, INTS, all(64, MIN));
            due("circular", x.circular(0, 0, 1), 1);
            due("carry, 2^74 = 18889465931478580854784", x.carry(0, 10000), 6);
            Rows.dueRow("digits", x, 0, 4784, 8085, 4785, 5931, 8946, 188);
        });
        e.edge("an entry of 2^64, whose lower half is 0", x -> {
            fill(x, 0, LONGS, all(4, 1L << 62));
            due("slide", x.slide(0, 4), 1);
            due("carry, 18446744073709551616", x.carry(0, 10000), 5);
            Rows.dueRow("digits", x, 0, 1616, 955, 737, 6744, 1844);
        });
        e.edge("an entry of 2^63, whose lower half looks as if below 0", x -> {
            fill(x, 0, LONGS, all(2, 1L << 62));
            due("slide", x.slide(0, 2), 1);
            due("carry, 9223372036854775808", x.carry(0, 10000), 5);
            Rows.dueRow("digits", x, 0, 5808, 5477, 368, 3372, 922);
        });
        e.words("(no 0 at the end, but one digit at least): how many.");
        carried(e, "0 has one digit", 10, new long[] {0}, 0);
        carried(e, "0s have one digit", 10, new long[] {0, 0, 0}, 0);
        carried(e, "1 has one digit", 10, new long[] {1}, 1);
        carried(e, "0s behind are left away", 10, new long[] {5, 0, 0}, 5);
        carried(e, "0s ahead and between are not", 10, new long[] {0, 5, 0, 7, 0}, 0, 5, 0, 7);
        carried(e, "the base less 1 is one digit", 10000, new long[] {9999}, 9999);
        carried(e, "the base is two", 10000, new long[] {10000}, 0, 1);
        e.edge("127 entries of 0 have one digit", x -> {
            fill(x, 0, BYTES, all(64, 0));
            due("multiply", x.multiply(0, 0, 0), 127);
            due("carry", x.carry(0, 2), 1);
            Rows.dueRow("digits", x, 0, 0);
        });
    }

    private static void carryRefused(Edges e) {
        e.words("UNKNOWN");
        for (int p : NO_PLACES) {
            e.refused("place " + p, UNKNOWN, x -> x.carry(p, 10));
            e.refused("place " + p + ", ahead of OUTSIDE", UNKNOWN, x -> x.carry(p, 1));
            e.edge("place " + p + ", ahead of STATE", x -> due("carry", x.carry(p, 10), UNKNOWN));
        }
        e.words("OUTSIDE: base is not 2 .. 10000");
        for (int base : new int[] {1, 0, -1, -2, -10, 10001, MIN, MAX}) {
            e.refused("base " + base, OUTSIDE, x -> x.carry(0, base));
            e.refused("base " + base + ", to a place with nothing", OUTSIDE, x -> x.carry(NOTHING, base));
            e.edge("base " + base + ", ahead of STATE", x -> due("carry", x.carry(0, base), OUTSIDE));
        }
        for (int base : new int[] {2, 10000}) {
            e.edge("base " + base + " is taken", x -> {
                made(x, 1);
                due("carry", x.carry(0, base), 1);
            });
        }
    }

    private static void carryState(Edges e) {
        e.words("STATE: THE PRODUCT has no entries");
        e.edge("nothing was made", x -> {
            fill(x, 0, BYTES, 7);
            due("at beside", x.at(0, 1), 0);
            due("carry", x.carry(0, 10), STATE);
            due("fault() is left alone", x.fault(), INDEX);
            Rows.dueRow("as it was", x, 0, 7);
            due("kind", x.kind(0, 0), BYTES);
        });
        e.refusedBehind("behind a slide over too few", x -> due("slide", x.slide(0, 5), 0), STATE, x -> x.carry(0, 10));
        e.words("or one below 0");
        e.refusedBehind("the only one", x -> made(x, -1), STATE, x -> x.carry(0, 10));
        e.refusedBehind("the first one", x -> made(x, -1, 1, 1), STATE, x -> x.carry(0, 10));
        e.refusedBehind("the middle one", x -> made(x, 1, -1, 1), STATE, x -> x.carry(0, 10));
        e.refusedBehind("the last one", x -> made(x, 1, 1, -1), STATE, x -> x.carry(0, 10));
        e.refusedBehind("the least LONG", x -> made(x, 1, Long.MIN_VALUE), STATE, x -> x.carry(0, 10));
        e.refusedBehind("to a place with nothing", x -> made(x, 1, -1), STATE, x -> x.carry(NOTHING, 10));
        e.refusedBehind("-2^64, whose lower half is 0", x -> {
            fill(x, 10, LONGS, Long.MIN_VALUE, Long.MIN_VALUE);
            due("slide", x.slide(10, 2), 1);
        }, STATE, x -> x.carry(0, 10));
        e.refusedBehind("ahead of FULL", x -> {
            fill(x, 6, BYTES, all(64, 1));
            fill(x, 7, BYTES, only(64, 0, 1));
            due("put", x.put(6, 0, -1), 1);
            due("put", x.put(7, 63, 1), 1);
            due("multiply", x.multiply(6, 7, 0), 127);
        }, STATE, x -> x.carry(0, 2));
    }

    private static void carryFull(Edges e) {
        e.words("FULL: more than 64 digits.");
        e.edge("2^64 - 1 to 2 has 64", x -> {
            made(x, all(64, 1));
            due("carry", x.carry(0, 2), 64);
            Rows.dueRow("digits", x, 0, all(64, 1));
        });
        Edges.Act oneMore = x -> {
            long[] entries = all(64, 1);
            entries[0] = 2;
            made(x, entries);
        };
        e.refusedBehind("2^64 to 2 has 65", oneMore, FULL, x -> x.carry(0, 2));
        e.refusedBehind("2^64 to 2 has 65, to a place with nothing", oneMore, FULL, x -> x.carry(NOTHING, 2));
        e.edge("10000^64 - 1 to 10000 has 64", x -> {
            made(x, all(64, 9999));
            due("carry", x.carry(0, 10000), 64);
            Rows.dueRow("digits", x, 0, all(64, 9999));
        });
        e.refusedBehind("10000^64 to 10000 has 65", x -> {
            long[] entries = all(64, 9999);
            entries[0] = 10000;
            made(x, entries);
        }, FULL, x -> x.carry(0, 10000));
        e.edge("the 64th digit alone", x -> {
            made(x, only(64, 63, 1));
            due("carry", x.carry(0, 10), 64);
            Rows.dueRow("digits", x, 0, only(64, 63, 1));
        });
        e.refusedBehind("the 65th digit alone", x -> {
            fill(x, 6, BYTES, only(64, 63, 1));
            fill(x, 7, BYTES, 0, 1);
            due("multiply", x.multiply(6, 7, 0), 65);
        }, FULL, x -> x.carry(0, 10));
        e.refusedBehind("the 127th digit alone", x -> {
            fill(x, 6, BYTES, only(64, 63, 1));
            due("multiply", x.multiply(6, 6, 0), 127);
        }, FULL, x -> x.carry(0, 10));
        e.refusedBehind("one entry of 2^74, to 2", x -> {
            fill(x, 6, INTS, all(64, MIN));
            due("circular", x.circular(6, 6, 1), 1);
        }, FULL, x -> x.carry(0, 2));
        e.refusedBehind("one entry of 2^64, to 2: 65 digits", x -> {
            fill(x, 6, LONGS, all(4, 1L << 62));
            due("slide", x.slide(6, 4), 1);
        }, FULL, x -> x.carry(0, 2));
        e.edge("one entry of 2^64 - 1, to 2: 64 digits", x -> {
            fill(x, 6, LONGS, Long.MAX_VALUE, Long.MAX_VALUE, 1);
            due("slide", x.slide(6, 3), 1);
            due("carry", x.carry(0, 2), 64);
            Rows.dueRow("digits", x, 0, all(64, 1));
        });
        e.edge("65 entries, the last one 0, have room", x -> {
            fill(x, 6, BYTES, only(64, 63, 1));
            fill(x, 7, BYTES, 1, 0);
            due("multiply", x.multiply(6, 7, 0), 65);
            due("carry", x.carry(0, 2), 64);
            Rows.dueRow("digits", x, 0, only(64, 63, 1));
        });
    }

    private static void cost(Edges e) {
        e.promise(22);
        e.words("COST.");
        // n, m, and the COST by the ways 0, 1, 2
        int[][] costs = {{1, 1, 1, 2, 12}, {1, 2, 2, 7, 33}, {2, 1, 2, 7, 33}, {2, 2, 4, 20, 78}, {1, 4, 4, 20, 84},
            {2, 3, 6, 20, 84}, {2, 4, 8, 52, 186}, {1, 64, 64, 704, 2496}, {64, 1, 64, 704, 2496}, {33, 32, 1056, 704, 2496},
            {2, 64, 128, 1600, 5190}, {33, 33, 1089, 1600, 5190}, {64, 64, 4096, 1600, 5562}};
        for (int[] row : costs) {
            for (int w = 0; w < 3; w++) {
                int way = w;
                e.edge(row[0] + " by " + row[1] + ", way " + way, x -> {
                    due("at, NULL", x.at(0, 0), 0);
                    due("cost", x.cost(way, row[0], row[1]), row[2 + way]);
                    due("fault() is left alone", x.fault(), NULL);
                });
            }
        }
        e.words("UNKNOWN: way");
        for (int way : new int[] {-1, 3, MIN, MAX}) {
            e.refused("way " + way, UNKNOWN, x -> x.cost(way, 1, 1));
            e.refused("way " + way + ", ahead of OUTSIDE", UNKNOWN, x -> x.cost(way, 0, 65));
        }
        e.words("OUTSIDE: n, m are not 1 .. 64.");
        for (int n : NO_COUNTS) {
            for (int w = 0; w < 3; w++) {
                int way = w;
                e.refused("n is " + n + ", way " + way, OUTSIDE, x -> x.cost(way, n, 1));
                e.refused("m is " + n + ", way " + way, OUTSIDE, x -> x.cost(way, 1, n));
                e.refused("both are " + n + ", way " + way, OUTSIDE, x -> x.cost(way, n, n));
            }
        }
    }

    private static void plan(Edges e) {
        e.promise(23);
        e.words("0 or 2: the way of these with the lesser COST (0 if they are like).");
        for (int[] pair : new int[][] {{1, 1}, {1, 64}, {64, 1}, {32, 32}, {32, 33}, {33, 33}, {64, 64}}) {
            e.edge(pair[0] + " by " + pair[1] + " is by way 0", x -> {
                due("at, NULL", x.at(0, 0), 0);
                due("plan", x.plan(pair[0], pair[1]), 0);
                due("fault() is left alone", x.fault(), NULL);
            });
        }
        // way 2 is never the lesser one within 64, so this holds what is reckoned as far as it can be seen
        for (int n = 1; n <= 64; n++) {
            int count = n;
            e.edge(n + " by 1 .. 64, as cost() tells", x -> {
                for (int m = 1; m <= 64; m++) {
                    boolean lesser = x.cost(2, count, m) < x.cost(0, count, m);
                    due("plan(" + count + ", " + m + ")", x.plan(count, m), lesser ? 2 : 0);
                }
            });
        }
        e.words("OUTSIDE.");
        for (int n : NO_COUNTS) {
            e.refused("n is " + n, OUTSIDE, x -> x.plan(n, 1));
            e.refused("m is " + n, OUTSIDE, x -> x.plan(1, n));
            e.refused("both are " + n, OUTSIDE, x -> x.plan(n, n));
        }
    }
}
