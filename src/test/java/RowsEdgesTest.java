/** The boundary cases of promises 1 to 9: a new object, row, share, kind, put, at, as, reverse, shift. */
public final class RowsEdgesTest extends EdgeNames {
    private static final int[] NO_LANES = {-1, 5, MIN, MAX};

    public static void main(String[] args) {
        Edges e = new Edges();
        list(e);
        e.run("RowsEdgesTest");
    }

    static void list(Edges e) {
        newObject(e);
        row(e);
        rowRefused(e);
        share(e);
        kind(e);
        put(e);
        putOfDoubles(e);
        putRefused(e);
        at(e);
        as(e);
        reverse(e);
        shift(e);
    }

    private static void newObject(Edges e) {
        e.promise(1);
        e.words("All PLACES have nothing");
        for (int p = 0; p < 12; p++) {
            int place = p;
            e.edge("place " + p, x -> {
                due("kind(p, 0)", x.kind(place, 0), NONE);
                due("kind(p, 1)", x.kind(place, 1), NONE);
                due("at(p, 0)", x.at(place, 0), 0);
                due("fault()", x.fault(), NULL);
            });
        }
        e.words("nothing was made.");
        e.edge("no SPECTRUM", x -> {
            due("told(0)", x.told(0), 0);
            due("told(1)", x.told(1), NONE);
            due("value(0)", x.value(0), UNKNOWN);
            due("inverse", x.inverse(0), STATE);
            due("row", x.row(0, BYTES, 1), 1);
            due("times", x.times(0), STATE);
        });
        e.edge("no entries of THE PRODUCT", x -> {
            Rows.dueProduct("a new object", x);
            due("carry", x.carry(0, 10), STATE);
        });
        e.edge("no RESIDUES", x -> Rows.dueResidues("a new object", x));
        e.edge("no RESTS", x -> Rows.dueRests("a new object", x));
        e.edge("no FITS", x -> Rows.dueFits("a new object", x));
        e.edge("no REALS", x -> Rows.dueReals("a new object", x));
        e.edge("no FAULT", x -> due("fault()", x.fault(), 0));
        e.edge("and nothing of another object", x -> {
            ConvolutionBench other = Table.laid();
            due("kind of the other", other.kind(0, 0), INTS);
            due("kind", x.kind(0, 0), NONE);
            for (int what = 0; what < 7; what++) {
                due("told", x.told(what), what == 1 ? NONE : 0);
            }
        });
    }

    private static void row(Edges e) {
        e.promise(2);
        e.words("A PLACE has a new ROW: 1.");
        for (int lane = 0; lane < 5; lane++) {
            for (int n : new int[] {1, 64}) {
                int of = lane;
                e.edge("LANE " + lane + ", n is " + n, x -> {
                    due("row", x.row(0, of, n), 1);
                    due("fault()", x.fault(), 0);
                    due("kind(0, 0)", x.kind(0, 0), of);
                    Rows.dueRow("all 0", x, 0, new long[n]);
                    due("at behind", x.at(0, n), 0);
                    due("fault()", x.fault(), INDEX);
                });
            }
        }
        for (int p : new int[] {0, 11}) {
            e.edge("place " + p + " alone", x -> {
                due("row", x.row(p, SHORTS, 2), 1);
                for (int q = 0; q < 12; q++) {
                    due("kind of place " + q, x.kind(q, 1), q == p ? 2 : NONE);
                }
            });
        }
        e.edge("where there was a longer one", x -> {
            fill(x, 3, INTS, 7, 8, 9);
            due("row", x.row(3, INTS, 2), 1);
            Rows.dueRow("new", x, 3, 0, 0);
        });
        e.edge("where there was one of another LANE", x -> {
            fill(x, 3, DOUBLES, 7);
            due("row", x.row(3, BYTES, 1), 1);
            due("kind", x.kind(3, 0), BYTES);
            Rows.dueRow("new", x, 3, 0);
        });
        e.edge("not in the places that shared the old one", x -> {
            fill(x, 3, INTS, 7, 8);
            due("share", x.share(4, 3), 1);
            due("row", x.row(3, BYTES, 1), 1);
            due("put", x.put(3, 0, 1), 1);
            Rows.dueRow("the old one", x, 4, 7, 8);
        });
    }

    private static void rowRefused(Edges e) {
        e.words("UNKNOWN");
        for (int p : NO_PLACES) {
            e.refused("place " + p, UNKNOWN, x -> x.row(p, BYTES, 1));
            e.refused("place " + p + ", ahead of OUTSIDE", UNKNOWN, x -> x.row(p, 5, 0));
            e.refused("place " + p + ", ahead of SIZE", UNKNOWN, x -> x.row(p, BYTES, -1));
        }
        e.words("OUTSIDE: lane");
        for (int lane : NO_LANES) {
            e.refused("lane " + lane, OUTSIDE, x -> x.row(0, lane, 1));
            e.refused("lane " + lane + ", ahead of SIZE", OUTSIDE, x -> x.row(0, lane, -1));
        }
        e.words("n is 0 or above 64");
        for (int n : new int[] {0, 65, MAX}) {
            for (int lane = 0; lane < 5; lane++) {
                int of = lane;
                e.refused("n is " + n + ", lane " + lane, OUTSIDE, x -> x.row(0, of, n));
            }
        }
        e.words("SIZE");
        for (int n : new int[] {-1, -64, MIN}) {
            for (int lane = 0; lane < 5; lane++) {
                int of = lane;
                e.faulted("n is " + n + ", lane " + lane, SIZE, x -> x.row(0, of, n));
            }
        }
        e.faulted("n is -1, where there is nothing", SIZE, x -> x.row(NOTHING, BYTES, -1));
    }

    private static void share(Edges e) {
        e.promise(3);
        e.words("A PLACE has what another one has (the same ROW): 1.");
        e.edge("what is put in the one is in the other", x -> {
            fill(x, 0, SHORTS, 4, 5);
            due("share", x.share(11, 0), 1);
            due("put", x.put(11, 1, 77), 1);
            due("at", x.at(0, 1), 77);
            due("put", x.put(0, 0, 78), 1);
            due("at", x.at(11, 0), 78);
        });
        e.edge("reverse and shift act on both", x -> {
            fill(x, 0, SHORTS, 4, 5, 6);
            due("share", x.share(1, 0), 1);
            due("reverse", x.reverse(1), 1);
            Rows.dueRow("reversed", x, 0, 6, 5, 4);
            due("shift", x.shift(0, 1), 1);
            Rows.dueRow("shifted", x, 1, 4, 6, 5);
        });
        e.edge("three places, one behind another", x -> {
            fill(x, 0, LONGS, 4);
            due("share", x.share(1, 0), 1);
            due("share", x.share(2, 1), 1);
            due("put", x.put(0, 0, 9), 1);
            due("at", x.at(2, 0), 9);
        });
        e.edge("with itself", x -> {
            fill(x, 0, BYTES, 4);
            due("share", x.share(0, 0), 1);
            Rows.dueRow("as it was", x, 0, 4);
        });
        e.edge("of nothing, where there was a ROW", x -> {
            fill(x, 0, BYTES, 4);
            due("share", x.share(0, 1), 1);
            due("kind", x.kind(0, 0), NONE);
            due("at", x.at(0, 0), 0);
            due("fault()", x.fault(), NULL);
        });
        e.edge("of nothing, where there was nothing", x -> {
            due("share", x.share(0, 11), 1);
            due("kind", x.kind(0, 0), NONE);
        });
        e.edge("nothing with itself", x -> {
            due("share", x.share(5, 5), 1);
            due("kind", x.kind(5, 1), NONE);
        });
        e.edge("what a place had is no longer in it", x -> {
            fill(x, 0, BYTES, 4);
            fill(x, 1, BYTES, 5);
            fill(x, 2, BYTES, 6);
            due("share", x.share(1, 0), 1);
            due("share", x.share(1, 2), 1);
            due("put", x.put(1, 0, 7), 1);
            Rows.dueRow("place 0", x, 0, 4);
            Rows.dueRow("place 2", x, 2, 7);
        });
        e.words("UNKNOWN");
        for (int p : NO_PLACES) {
            e.refused("place " + p, UNKNOWN, x -> x.share(p, 0));
            e.refused("from " + p, UNKNOWN, x -> x.share(0, p));
            e.refused("from " + p + " to nothing", UNKNOWN, x -> x.share(NOTHING, p));
            e.refused("both " + p, UNKNOWN, x -> x.share(p, p));
        }
    }

    private static void kind(Edges e) {
        e.promise(4);
        e.words("Of a PLACE: 0 the LANE of its ROW, 1 how many ENTRIES");
        for (int lane = 0; lane < 5; lane++) {
            for (int n : new int[] {1, 64}) {
                int of = lane;
                e.edge("LANE " + lane + " with " + n, x -> {
                    due("row", x.row(11, of, n), 1);
                    due("kind(11, 0)", x.kind(11, 0), of);
                    due("kind(11, 1)", x.kind(11, 1), n);
                });
            }
        }
        e.words("NONE: it has nothing.");
        for (int what : new int[] {0, 1}) {
            e.refused("what is " + what, NONE, x -> x.kind(NOTHING, what));
        }
        e.words("UNKNOWN");
        for (int p : NO_PLACES) {
            e.refused("place " + p, UNKNOWN, x -> x.kind(p, 0));
            e.refused("place " + p + ", ahead of OUTSIDE", UNKNOWN, x -> x.kind(p, 2));
        }
        e.words("OUTSIDE.");
        for (int what : new int[] {-1, 2, MIN, MAX}) {
            e.refused("what is " + what, OUTSIDE, x -> x.kind(0, what));
            e.refused("what is " + what + ", of nothing", OUTSIDE, x -> x.kind(NOTHING, what));
        }
    }

    private static void put(Edges e) {
        e.promise(5);
        e.words("ENTRY i becomes v: 1.");
        long[][] bytes = {{127, 127}, {128, -128}, {-128, -128}, {-129, 127}, {255, -1}, {256, 0},
            {Long.MAX_VALUE, -1}, {Long.MIN_VALUE, 0}};
        long[][] shorts = {{32767, 32767}, {32768, -32768}, {-32768, -32768}, {-32769, 32767}, {65535, -1}, {65536, 0},
            {Long.MAX_VALUE, -1}, {Long.MIN_VALUE, 0}};
        long[][] ints = {{MAX, MAX}, {MAX + 1L, MIN}, {MIN, MIN}, {MIN - 1L, MAX}, {0xffffffffL, -1}, {0x100000000L, 0},
            {Long.MAX_VALUE, -1}, {Long.MIN_VALUE, 0}};
        long[][] longs = {{Long.MAX_VALUE, Long.MAX_VALUE}, {Long.MIN_VALUE, Long.MIN_VALUE}, {-1, -1}, {MAX + 1L, MAX + 1L}};
        becomes(e, BYTES, bytes);
        becomes(e, SHORTS, shorts);
        becomes(e, INTS, ints);
        becomes(e, LONGS, longs);
        for (int[] pair : new int[][] {{1, 0}, {64, 0}, {64, 63}}) {
            int n = pair[0];
            int i = pair[1];
            e.edge("ENTRY " + i + " of " + n + ", no other one", x -> {
                due("row", x.row(0, BYTES, n), 1);
                due("put", x.put(0, i, 5), 1);
                Rows.dueRow("behind it", x, 0, only(n, i, 5));
            });
        }
    }

    private static void becomes(Edges e, int lane, long[][] pairs) {
        for (long[] pair : pairs) {
            e.edge(pair[0] + " in LANE " + lane, x -> {
                fill(x, 0, lane, 1, 1, 1);
                due("put", x.put(0, 1, pair[0]), 1);
                due("fault()", x.fault(), 0);
                Rows.dueRow("behind it", x, 0, 1, pair[1], 1);
            });
        }
    }

    private static void putOfDoubles(Edges e) {
        long[] kept = {0L, 1L << 63, 1L, 1L << 63 | 1L, 0x000fffffffffffffL, 0x0010000000000000L, 0x3ff0000000000000L,
            0x7fefffffffffffffL, 0x7ff0000000000000L, 0xffefffffffffffffL, 0xfff0000000000000L};
        for (long bits : kept) {
            becomes(e, DOUBLES, new long[][] {{bits, bits}});
        }
        long[] none = {0x7ff0000000000001L, 0x7ff7ffffffffffffL, 0x7ff8000000000000L, 0x7ff8000000000001L, 0x7fffffffffffffffL,
            0xfff0000000000001L, 0xfff8000000000000L, -1L};
        for (long bits : none) {
            becomes(e, DOUBLES, new long[][] {{bits, 0x7ff8000000000000L}});
        }
    }

    private static void putRefused(Edges e) {
        e.words("UNKNOWN");
        for (int p : NO_PLACES) {
            e.refused("place " + p, UNKNOWN, x -> x.put(p, 0, 7));
            e.refused("place " + p + ", ahead of INDEX", UNKNOWN, x -> x.put(p, -1, 7));
        }
        e.words("NULL");
        e.faulted("a place with nothing", NULL, x -> x.put(NOTHING, 0, 7));
        e.faulted("a place with nothing, ahead of INDEX", NULL, x -> x.put(NOTHING, -1, 7));
        e.words("INDEX.");
        int[] counts = {4, 2, 3, 2, 2};
        for (int p = 0; p < counts.length; p++) {
            for (int i : new int[] {-1, counts[p], 64, MIN, MAX}) {
                int place = p;
                e.faulted("ENTRY " + i + " of place " + p, INDEX, x -> x.put(place, i, 7));
            }
        }
        e.faultedBehind("ENTRY 64 of 64", x -> x.row(0, BYTES, 64), INDEX, x -> x.put(0, 64, 7));
        e.faultedBehind("ENTRY 1 of 1", x -> x.row(0, LONGS, 1), INDEX, x -> x.put(0, 1, 7));
    }

    private static void at(Edges e) {
        e.promise(6);
        e.words("ENTRY i, as told.");
        e.edge("the first and the last of 64", x -> {
            fill(x, 11, LONGS, rising(64, Long.MIN_VALUE));
            due("at(11, 0)", x.at(11, 0), Long.MIN_VALUE);
            due("at(11, 63)", x.at(11, 63), Long.MIN_VALUE + 63);
            due("fault()", x.fault(), 0);
        });
        for (int lane = 0; lane < 4; lane++) {
            int of = lane;
            e.edge("one below 0 in LANE " + lane, x -> {
                fill(x, 0, of, -1, -128);
                due("at(0, 0)", x.at(0, 0), -1);
                due("at(0, 1)", x.at(0, 1), -128);
            });
        }
        e.edge("a DOUBLE by its BITS", x -> {
            fillDoubles(x, 0, -0.0, Double.NaN, Double.NEGATIVE_INFINITY);
            Rows.dueRow("BITS", x, 0, Long.MIN_VALUE, 0x7ff8000000000000L, 0xfff0000000000000L);
        });
        e.edge("a FAULT of the call before is over", x -> {
            fill(x, 0, BYTES, 3);
            due("at beside", x.at(0, 1), 0);
            due("at", x.at(0, 0), 3);
            due("fault()", x.fault(), 0);
        });
        e.words("0 (and no FAULT): UNKNOWN.");
        for (int p : NO_PLACES) {
            e.refused("place " + p, 0, x -> x.at(p, 0));
            e.refused("place " + p + ", ahead of INDEX", 0, x -> x.at(p, -1));
        }
        e.words("NULL");
        e.faulted("a place with nothing", NULL, x -> x.at(NOTHING, 0));
        e.faulted("a place with nothing, ahead of INDEX", NULL, x -> x.at(NOTHING, 64));
        e.words("INDEX.");
        for (int i : new int[] {-1, 4, 64, MIN, MAX}) {
            e.faulted("ENTRY " + i + " of 4", INDEX, x -> x.at(0, i));
        }
        e.faultedBehind("ENTRY 64 of 64", x -> x.row(0, DOUBLES, 64), INDEX, x -> x.at(0, 64));
    }

    private static void as(Edges e) {
        e.promise(7);
        e.words("ENTRY i of what a PLACE has, taken as a ROW of a LANE 0 .. 4, as told.");
        for (int lane = 0; lane < 5; lane++) {
            int of = lane;
            e.edge("LANE " + lane + ", the first and the last", x -> {
                fill(x, 0, of, 5, 6, 7);
                due("as first", x.as(0, 0, of), 5);
                due("as last", x.as(0, 2, of), 7);
                due("fault()", x.fault(), 0);
            });
        }
        e.words("0 (and no FAULT): UNKNOWN, OUTSIDE.");
        for (int p : NO_PLACES) {
            e.refused("place " + p, 0, x -> x.as(p, 0, BYTES));
        }
        for (int lane : NO_LANES) {
            e.refused("lane " + lane, 0, x -> x.as(0, 0, lane));
            e.refused("lane " + lane + ", ahead of NULL", 0, x -> x.as(NOTHING, 0, lane));
            e.refused("lane " + lane + ", ahead of INDEX", 0, x -> x.as(0, -1, lane));
        }
        e.words("CAST: a ROW of another LANE");
        int[] lanes = {INTS, BYTES, SHORTS, LONGS, DOUBLES};
        for (int p = 0; p < lanes.length; p++) {
            for (int lane = 0; lane < 5; lane++) {
                int place = p;
                int other = lane;
                if (lane == lanes[p]) continue;
                e.faulted("LANE " + lanes[p] + " as " + lane, CAST, x -> x.as(place, 0, other));
                e.faulted("LANE " + lanes[p] + " as " + lane + ", ahead of INDEX", CAST, x -> x.as(place, 64, other));
            }
        }
        e.words("NULL");
        for (int lane = 0; lane < 5; lane++) {
            int of = lane;
            e.faulted("nothing, as LANE " + lane, NULL, x -> x.as(NOTHING, 0, of));
            e.faulted("nothing, as LANE " + lane + ", ahead of INDEX", NULL, x -> x.as(NOTHING, -1, of));
        }
        e.words("INDEX.");
        for (int i : new int[] {-1, 4, 64, MIN, MAX}) {
            e.faulted("ENTRY " + i + " of 4", INDEX, x -> x.as(0, i, INTS));
        }
    }

    private static void reverse(Edges e) {
        e.promise(8);
        e.words("ENTRIES of a ROW, in the other order: 1.");
        for (int n : new int[] {1, 2, 3, 63, 64}) {
            e.edge(n + " ENTRIES", x -> {
                long[] rising = rising(n, -3);
                long[] falling = new long[n];
                for (int i = 0; i < n; i++) {
                    falling[i] = rising[n - 1 - i];
                }
                fill(x, 11, BYTES, rising);
                due("reverse", x.reverse(11), 1);
                due("fault()", x.fault(), 0);
                Rows.dueRow("reversed", x, 11, falling);
                due("reverse", x.reverse(11), 1);
                Rows.dueRow("and again", x, 11, rising);
            });
        }
        e.edge("DOUBLES with a 0 below 0 and one that is not a number", x -> {
            fillDoubles(x, 0, Double.NaN, 1.0, -0.0);
            due("reverse", x.reverse(0), 1);
            Rows.dueRow("reversed", x, 0, Long.MIN_VALUE, Double.doubleToLongBits(1.0), Rows.NAN);
        });
        e.words("UNKNOWN");
        for (int p : NO_PLACES) {
            e.refused("place " + p, UNKNOWN, x -> x.reverse(p));
        }
        e.words("NULL.");
        e.faulted("a place with nothing", NULL, x -> x.reverse(NOTHING));
    }

    private static void shift(Edges e) {
        e.promise(9);
        e.words("A ROW's ENTRIES go k places on, around (k below 0: back): 1.");
        for (int n : new int[] {1, 2, 5, 64}) {
            int[] ks = {0, 1, n - 1, n, n + 1, 2 * n, 2 * n + 3, -1, 1 - n, -n, -n - 1, -2 * n - 3, MAX, MIN};
            for (int at = 0; at < ks.length; at++) {
                int k = ks[at];
                e.edge(n + " ENTRIES, k is " + k + " (" + at + ")", x -> shiftedBy(x, n, k));
            }
        }
        e.edge("one place on", x -> {
            fill(x, 0, INTS, 1, 2, 3);
            due("shift", x.shift(0, 1), 1);
            Rows.dueRow("shifted", x, 0, 3, 1, 2);
        });
        e.edge("one place back", x -> {
            fill(x, 0, INTS, 1, 2, 3);
            due("shift", x.shift(0, -1), 1);
            Rows.dueRow("shifted", x, 0, 2, 3, 1);
        });
        e.words("UNKNOWN");
        for (int p : NO_PLACES) {
            e.refused("place " + p, UNKNOWN, x -> x.shift(p, 1));
        }
        e.words("NULL.");
        e.faulted("a place with nothing", NULL, x -> x.shift(NOTHING, 1));
        e.faulted("a place with nothing, k is 0", NULL, x -> x.shift(NOTHING, 0));
    }

    private static void shiftedBy(ConvolutionBench x, int n, int k) {
        long[] want = new long[n];
        for (int i = 0; i < n; i++) {
            want[(int) Math.floorMod((long) i + k, (long) n)] = 10 + i;
        }
        fill(x, 0, LONGS, rising(n, 10));
        due("shift", x.shift(0, k), 1);
        due("fault()", x.fault(), 0);
        Rows.dueRow("shifted", x, 0, want);
    }
}
