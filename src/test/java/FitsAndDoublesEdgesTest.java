/** The boundary cases of promises 31 to 34: match, matchAt, real, realAt. */
public final class FitsAndDoublesEdgesTest extends EdgeNames {
    private static final double INF = Double.POSITIVE_INFINITY, NAN = Double.NaN;
    private static final double LEAST = Double.MIN_VALUE, NORMAL = Double.MIN_NORMAL, MOST = Double.MAX_VALUE;

    public static void main(String[] args) {
        Edges e = new Edges();
        list(e);
        e.run("FitsAndDoublesEdgesTest");
    }

    static void list(Edges e) {
        match(e);
        matchTold(e);
        matchRefused(e);
        matchAt(e);
        real(e);
        realRounds(e);
        realOfWholes(e);
        realIsNoNumber(e);
        realRefused(e);
        realAt(e);
    }

    private static long[] row(long... entries) {
        return entries;
    }

    private static double[] doubles(double... entries) {
        return entries;
    }

    private static void fits(Edges e, String what, long[] text, long[] pattern, long wild, int... want) {
        e.edge(what, x -> {
            fill(x, 0, LONGS, text);
            fill(x, 11, LONGS, pattern);
            due("match", x.match(0, 11, wild), want.length);
            due("fault()", x.fault(), 0);
            Rows.dueFits("fits", x, want);
        });
    }

    private static int[] places(int n) {
        int[] places = new int[n];
        for (int k = 0; k < n; k++) {
            places[k] = k;
        }
        return places;
    }

    private static void match(Edges e) {
        e.promise(31);
        e.words("THE FITS: the places k, rising, at which a pattern's ROW fits a text's");
        fits(e, "one ENTRY in one: it fits", row(5), row(5), 9, 0);
        fits(e, "one ENTRY in one: it does not", row(5), row(6), 9);
        fits(e, "as long as the text", row(1, 2, 3), row(1, 2, 3), 9, 0);
        fits(e, "as long as the text, the last ENTRY is another", row(1, 2, 3), row(1, 2, 4), 9);
        fits(e, "one longer than the text", row(1, 2), row(1, 2, 3), 9);
        fits(e, "one longer than the text, all wild", row(9, 9), row(9, 9, 9), 9);
        fits(e, "64 in one, all wild", row(9), all(64, 9), 9);
        fits(e, "at the first and at the last place", row(1, 2, 3, 1, 2), row(1, 2), 9, 0, 3);
        fits(e, "fits that overlap", row(1, 1, 1), row(1, 1), 9, 0, 1);
        fits(e, "the last ENTRY begins one, but it is not all there", row(2, 1), row(1, 1), 9);
        fits(e, "everywhere in 64", all(64, 1), row(1), 9, places(64));
        fits(e, "64 in 64", all(64, 1), all(64, 1), 9, 0);
        fits(e, "nowhere in 64", all(64, 1), row(2), 9);
        e.edge("a text in itself", x -> {
            fill(x, 0, BYTES, 3, 3);
            due("match", x.match(0, 0, 9), 1);
            Rows.dueFits("fits", x, 0);
        });
        e.words("for each ENTRY i of the pattern, it, or ENTRY k + i of the text, is the wild one (told), or both are told alike:"
            + " how many.");
        fits(e, "wild in the pattern", row(1, 2, 3), row(1, 9), 9, 0);
        fits(e, "wild in the text", row(1, 9, 3), row(1, 2), 9, 0);
        fits(e, "wild in the text, at each of its places", row(7, 9, 7), row(7, 7), 9, 0, 1);
        fits(e, "wild in both, at one place", row(9), row(9), 9, 0);
        fits(e, "wild in both, at two", row(9, 1), row(1, 9), 9, 0);
        fits(e, "a pattern all wild", row(1, 2, 3), row(9, 9), 9, 0, 1);
        fits(e, "a text all wild", row(9, 9, 9), row(1, 2), 9, 0, 1);
        fits(e, "0 is not wild of itself", row(0, 1), row(1), 9, 1);
        fits(e, "0 as the wild one", row(0, 1, 2), row(1), 0, 0, 1);
        fits(e, "-1 as the wild one", row(-1, 1, 2), row(1), -1, 0, 1);
        fits(e, "the least LONG as the wild one", row(Long.MIN_VALUE, 1, 2), row(1), Long.MIN_VALUE, 0, 1);
        fits(e, "the greatest LONG as the wild one", row(Long.MAX_VALUE, 1, 2), row(1), Long.MAX_VALUE, 0, 1);
        fits(e, "the first ENTRY alone is wrong", row(1, 2, 3), row(8, 2, 3), 9);
        fits(e, "the middle ENTRY alone is wrong", row(1, 2, 3), row(1, 8, 3), 9);
        fits(e, "where they differ above 32 bits", row(1, 1L << 32 | 1), row(1), 9, 0);
    }

    private static void matchTold(Edges e) {
        for (int a = 0; a < 4; a++) {
            for (int b = 0; b < 4; b++) {
                int text = a;
                int pattern = b;
                e.edge("told alike: -1 in LANE " + a + " and in LANE " + b, x -> {
                    fill(x, 0, text, 1, -1);
                    fill(x, 1, pattern, -1);
                    due("match", x.match(0, 1, 9), 1);
                    Rows.dueFits("fits", x, 1);
                });
            }
        }
        e.edge("257 is not told as the BYTE 1", x -> {
            fill(x, 0, BYTES, 1);
            fill(x, 1, SHORTS, 257);
            due("match", x.match(0, 1, 9), 0);
        });
        e.edge("a wild one of 257 is not the BYTE 1", x -> {
            fill(x, 0, BYTES, 1);
            fill(x, 1, BYTES, 2);
            due("match", x.match(0, 1, 257), 0);
            due("match", x.match(0, 1, 1), 1);
        });
        e.edge("a wild one of 255 is not the BYTE that was put as 255", x -> {
            fill(x, 0, BYTES, 255);
            fill(x, 1, BYTES, 2);
            due("match", x.match(0, 1, 255), 0);
            due("match", x.match(0, 1, -1), 1);
        });
        e.edge("a wild one of 2^32 is not the INT 0", x -> {
            fill(x, 0, INTS, 0);
            fill(x, 1, INTS, 2);
            due("match", x.match(0, 1, 1L << 32), 0);
            due("match", x.match(0, 1, 0), 1);
        });
    }

    private static void matchRefused(Edges e) {
        e.words("UNKNOWN");
        for (int p : NO_PLACES) {
            e.refused("text is " + p, UNKNOWN, x -> x.match(p, NOTHING, 0));
            e.refused("pattern is " + p, UNKNOWN, x -> x.match(NOTHING, p, 0));
        }
        e.words("NULL");
        e.faulted("text has nothing", NULL, x -> x.match(NOTHING, 0, 0));
        e.faulted("pattern has nothing", NULL, x -> x.match(0, NOTHING, 0));
        e.faulted("pattern has nothing, ahead of the text's CAST", NULL, x -> x.match(4, NOTHING, 0));
        e.faulted("text has nothing, ahead of the pattern's CAST", NULL, x -> x.match(NOTHING, 4, 0));
        e.words("CAST: DOUBLES (text, then pattern).");
        e.faulted("text", CAST, x -> x.match(4, 1, 0));
        e.faulted("pattern", CAST, x -> x.match(0, 4, 0));
        e.faulted("both", CAST, x -> x.match(4, 4, 0));
        e.faultedBehind("a pattern that is longer", x -> x.row(4, DOUBLES, 64), CAST, x -> x.match(0, 4, 0));
    }

    private static void matchAt(Edges e) {
        e.promise(32);
        e.words("The i-th of THE FITS");
        e.edge("the first and the last of 64, from 0 on", x -> {
            fill(x, 0, BYTES, all(64, 1));
            fill(x, 1, BYTES, 1);
            due("match", x.match(0, 1, 0), 64);
            due("matchAt(0)", x.matchAt(0), 0);
            due("matchAt(63)", x.matchAt(63), 63);
            due("matchAt(64)", x.matchAt(64), NONE);
        });
        e.edge("it leaves fault() alone", x -> {
            fill(x, 0, BYTES, 1);
            due("match", x.match(0, 0, 0), 1);
            due("at beside", x.at(0, 1), 0);
            due("matchAt(0)", x.matchAt(0), 0);
            due("fault()", x.fault(), INDEX);
        });
        e.words("NONE.");
        for (int i : new int[] {-1, 1, 63, 64, MIN, MAX}) {
            e.refused("number " + i + " of 1", NONE, x -> x.matchAt(i));
        }
        for (int i : new int[] {-1, 0, 1}) {
            e.edge("number " + i + " of none, nothing was made", x -> due("matchAt", x.matchAt(i), NONE));
        }
        e.edge("number 0, behind a match without fits", x -> {
            ConvolutionBench y = Table.laid();
            due("matchAt(0)", y.matchAt(0), 2);
            due("match", y.match(1, 0, 9), 0);
            due("matchAt(0)", y.matchAt(0), NONE);
        });
        e.edge("one of the more that were there", x -> {
            fill(x, 0, BYTES, 1, 1);
            fill(x, 1, BYTES, 1);
            due("match", x.match(0, 1, 0), 2);
            due("match", x.match(1, 1, 0), 1);
            due("matchAt(1)", x.matchAt(1), NONE);
        });
    }

    private static void reals(Edges e, String what, double[] a, double[] b, double... want) {
        e.edge(what, x -> {
            fillDoubles(x, 0, a);
            fillDoubles(x, 11, b);
            due("real", x.real(0, 11), want.length);
            due("fault()", x.fault(), 0);
            Rows.dueReals("reals", x, want);
        });
    }

    private static void real(Edges e) {
        e.promise(33);
        e.words("THE REALS: entry k is the sum, from 0.0 on, by rising i, of x(i) times y(k - i)");
        reals(e, "one by one", doubles(1.5), doubles(-2.0), -3.0);
        reals(e, "2 by 3", doubles(0.5, -1.25), doubles(2.0, 3.0, -4.0), 1.0, -1.0, -5.75, 5.0);
        reals(e, "1 by 3", doubles(2.0), doubles(1.0, 2.0, 3.0), 2.0, 4.0, 6.0);
        reals(e, "3 by 1", doubles(1.0, 2.0, 3.0), doubles(2.0), 2.0, 4.0, 6.0);
        reals(e, "from 0.0 on: a product of -0.0 is 0.0", doubles(-0.0), doubles(1.0), 0.0);
        reals(e, "from 0.0 on: all products are -0.0", doubles(-0.0, -0.0), doubles(1.0, 1.0), 0.0, 0.0, 0.0);
        reals(e, "from 0.0 on: a product too small, below 0", doubles(-LEAST), doubles(0.5), 0.0);
        reals(e, "a sum that comes back to 0", doubles(1.0, -1.0), doubles(1.0, 1.0), 1.0, 0.0, -1.0);
        reals(e, "by rising i: small ones behind 1 are lost", doubles(1.0, 0x1p-53, 0x1p-53), doubles(1.0, 1.0, 1.0),
            1.0, 1.0, 1.0, 0x1p-52, 0x1p-53);
        reals(e, "by rising i: small ones ahead of 1 are not", doubles(0x1p-53, 0x1p-53, 1.0), doubles(1.0, 1.0, 1.0),
            0x1p-53, 0x1p-52, 1.0 + 0x1p-52, 1.0, 1.0);
        reals(e, "by rising i: too great for a while, and back", doubles(MOST, MOST, -MOST), doubles(1.0, 1.0, 1.0),
            MOST, INF, INF, 0.0, -MOST);
        e.edge("64 by 64: 127 entries", x -> {
            fill(x, 0, INTS, all(64, 1));
            due("real", x.real(0, 0), 127);
            double[] want = new double[127];
            for (int k = 0; k < 127; k++) {
                want[k] = Math.min(k + 1, 127 - k);
            }
            Rows.dueReals("reals", x, want);
        });
        e.edge("in place of more that were there", x -> {
            fillDoubles(x, 0, 1.0, 2.0);
            fillDoubles(x, 1, 3.0);
            due("real", x.real(0, 0), 3);
            due("real", x.real(1, 1), 1);
            Rows.dueReals("reals", x, 9.0);
        });
    }

    private static void realRounds(Edges e) {
        e.words("each act rounded by itself");
        reals(e, "0.1 times 0.1", doubles(0.1), doubles(0.1), 0.010000000000000002);
        reals(e, "0.1, 0.2, 0.3", doubles(0.1, 0.2, 0.3), doubles(0.3, 0.2, 0.1), 0.0 + 0.1 * 0.3, 0.1 * 0.2 + 0.2 * 0.3,
            0.1 * 0.1 + 0.2 * 0.2 + 0.3 * 0.3, 0.2 * 0.1 + 0.3 * 0.2, 0.3 * 0.1);
        double a = 1.0 + 0x1p-30;
        double rounded = 1.0 + 0x1p-29;
        reals(e, "no act is joined with another", doubles(a, -1.0), doubles(rounded, a), a * rounded, a * a - rounded, -a);
        reals(e, "half of a last bit, to the even one", doubles(1.0, 1.0), doubles(0x1p-53, 1.0), 0x1p-53, 1.0, 1.0);
        reals(e, "half of a last bit, from the odd one on", doubles(1.0 + 0x1p-52, 1.0), doubles(1.0, 0x1p-53),
            1.0 + 0x1p-52, 0x1p-53 * (1.0 + 0x1p-52) + 1.0, 0x1p-53);
        reals(e, "the least times one half is 0", doubles(LEAST), doubles(0.5), 0.0);
        reals(e, "three times the least, times one half", doubles(3 * LEAST), doubles(0.5), 2 * LEAST);
        reals(e, "the least times 0.75", doubles(LEAST), doubles(0.75), LEAST);
        reals(e, "the least itself, and below 0", doubles(LEAST, -LEAST), doubles(1.0), LEAST, -LEAST);
        reals(e, "the greatest below the normal ones", doubles(NORMAL - LEAST), doubles(-1.0), LEAST - NORMAL);
        reals(e, "the least normal one", doubles(NORMAL), doubles(1.0), NORMAL);
        reals(e, "from normal to below", doubles(NORMAL), doubles(0.5), 0x1p-1023);
        reals(e, "from below to normal", doubles(0x1p-1023), doubles(2.0), NORMAL);
        reals(e, "rounded up to the least normal one", doubles(0x1.fffffffffffffp-1022), doubles(0.5), NORMAL);
        reals(e, "the greatest of all", doubles(MOST, -MOST), doubles(1.0), MOST, -MOST);
        reals(e, "past the greatest of all", doubles(MOST, -MOST), doubles(2.0), INF, -INF);
        reals(e, "a sum past the greatest of all", doubles(MOST, MOST), doubles(1.0, 1.0), MOST, INF, MOST);
        reals(e, "half of a last bit past the greatest", doubles(MOST, 0x1p970), doubles(1.0, 1.0), MOST, INF, 0x1p970);
        reals(e, "less than half of one", doubles(MOST, 0x1p969), doubles(1.0, 1.0), MOST, MOST, 0x1p969);
        reals(e, "a great one times a small one", doubles(0x1p1023), doubles(LEAST), 0x1p-51);
        for (int exponent = -1074; exponent <= 1023; exponent++) {
            double power = Math.scalb(1.0, exponent);
            reals(e, "2 to the " + exponent + " keeps its BITS", doubles(power, -power), doubles(1.0), power, -power);
        }
    }

    private static void realOfWholes(Edges e) {
        e.words("as doubles (WHOLE ones cast)");
        long[][] wholes = {row(0, 1, -1, -128, 127), row(-32768, 32767), row(MIN, MAX),
            row(Long.MIN_VALUE, Long.MAX_VALUE, (1L << 53) + 1, (1L << 53) + 3, -(1L << 53) - 1)};
        for (int lane = 0; lane < 4; lane++) {
            int of = lane;
            e.edge("the borders of LANE " + lane, x -> {
                double[] want = new double[wholes[of].length];
                for (int i = 0; i < want.length; i++) {
                    want[i] = wholes[of][i];
                }
                fill(x, 0, of, wholes[of]);
                fillDoubles(x, 1, 1.0);
                due("real", x.real(0, 1), want.length);
                Rows.dueReals("cast", x, want);
                due("real", x.real(1, 0), want.length);
                Rows.dueReals("cast, the other one", x, want);
            });
        }
        e.edge("the greatest LONG is 2 to the 63", x -> {
            fill(x, 0, LONGS, Long.MAX_VALUE);
            fill(x, 1, BYTES, 1);
            due("real", x.real(0, 1), 1);
            Rows.dueReals("cast", x, 0x1p63);
        });
        e.edge("2 to the 53 and 1 is rounded", x -> {
            fill(x, 0, LONGS, (1L << 53) + 1);
            fill(x, 1, BYTES, 1);
            due("real", x.real(0, 1), 1);
            Rows.dueReals("cast", x, 0x1p53);
        });
        e.edge("LONGS whose product is past 64 bits", x -> {
            fill(x, 0, LONGS, Long.MIN_VALUE);
            due("real", x.real(0, 0), 1);
            Rows.dueReals("cast ahead of the product", x, 0x1p126);
        });
        e.edge("INTS whose product is past 32 bits", x -> {
            fill(x, 0, INTS, MIN);
            due("real", x.real(0, 0), 1);
            Rows.dueReals("cast ahead of the product", x, 0x1p62);
        });
    }

    private static void realIsNoNumber(Edges e) {
        e.words("not a number from where an act would give none");
        reals(e, "0 times infinite", doubles(0.0), doubles(INF), NAN);
        reals(e, "infinite times 0", doubles(INF), doubles(0.0), NAN);
        reals(e, "-0.0 times infinite", doubles(-0.0), doubles(INF), NAN);
        reals(e, "0 times infinite below 0", doubles(0.0), doubles(-INF), NAN);
        reals(e, "infinite times what is almost 0", doubles(INF), doubles(-LEAST), -INF);
        reals(e, "infinite and infinite", doubles(INF, INF), doubles(1.0, 1.0), INF, INF, INF);
        reals(e, "infinite less infinite", doubles(INF, -INF), doubles(1.0, 1.0), INF, NAN, -INF);
        reals(e, "infinite below 0, and infinite", doubles(-INF, INF), doubles(1.0, 1.0), -INF, NAN, INF);
        reals(e, "infinite less the greatest", doubles(INF, -MOST), doubles(1.0, 1.0), INF, INF, -MOST);
        reals(e, "the greatest, twice, less infinite", doubles(MOST, -INF), doubles(2.0, 2.0), INF, NAN, -INF);
        reals(e, "once not a number, always so", doubles(INF, -INF, 1.0), doubles(1.0, 1.0, 1.0), INF, NAN, NAN, -INF, 1.0);
        reals(e, "0 times infinite in the middle of a sum", doubles(1.0, 0.0, 1.0), doubles(1.0, INF, 1.0),
            1.0, INF, NAN, INF, 1.0);
        e.edge("a WHOLE 0 times infinite", x -> {
            fill(x, 0, INTS, 0, 1);
            fillDoubles(x, 1, INF);
            due("real", x.real(0, 1), 2);
            Rows.dueReals("reals", x, NAN, INF);
            due("real", x.real(1, 0), 2);
            Rows.dueReals("reals", x, NAN, INF);
        });
        e.words("or meets one: how many entries.");
        reals(e, "in a", doubles(NAN, 1.0), doubles(1.0, 2.0), NAN, NAN, 2.0);
        reals(e, "in b", doubles(1.0, 2.0), doubles(1.0, NAN), 1.0, NAN, NAN);
        reals(e, "in both", doubles(NAN), doubles(NAN), NAN);
        reals(e, "times 0", doubles(NAN), doubles(0.0), NAN);
        reals(e, "times infinite", doubles(INF), doubles(NAN), NAN);
        reals(e, "behind infinite", doubles(INF, NAN), doubles(1.0, 1.0), INF, NAN, NAN);
        e.edge("one that was put with other BITS", x -> {
            fill(x, 0, DOUBLES, -1L);
            fill(x, 1, BYTES, 1);
            due("real", x.real(0, 1), 1);
            due("realAt(0)", x.realAt(0), 0x7ff8000000000000L);
        });
        e.edge("LONGS that look like its BITS are none", x -> {
            fill(x, 0, LONGS, 0x7ff8000000000000L);
            fill(x, 1, BYTES, 1);
            due("real", x.real(0, 1), 1);
            Rows.dueReals("reals", x, (double) 0x7ff8000000000000L);
        });
    }

    private static void realRefused(Edges e) {
        e.words("UNKNOWN");
        for (int p : NO_PLACES) {
            e.refused("a is " + p, UNKNOWN, x -> x.real(p, NOTHING));
            e.refused("b is " + p, UNKNOWN, x -> x.real(NOTHING, p));
        }
        e.words("NULL.");
        e.faulted("a has nothing", NULL, x -> x.real(NOTHING, 0));
        e.faulted("b has nothing", NULL, x -> x.real(0, NOTHING));
        e.faulted("both have nothing", NULL, x -> x.real(NOTHING, NOTHING));
        for (int a = 0; a < 5; a++) {
            for (int b = 0; b < 5; b++) {
                int one = a;
                int other = b;
                e.edge("no CAST: LANE " + a + " by LANE " + b, x -> {
                    fill(x, 0, one, 0);
                    fill(x, 1, other, 0);
                    due("real", x.real(0, 1), 1);
                    due("fault()", x.fault(), 0);
                });
            }
        }
    }

    private static void realAt(Edges e) {
        e.promise(34);
        e.words("BITS of entry i of THE REALS");
        e.edge("the first and the last of 127", x -> {
            fill(x, 0, BYTES, all(64, 1));
            due("real", x.real(0, 0), 127);
            due("realAt(0)", x.realAt(0), Double.doubleToLongBits(1.0));
            due("realAt(126)", x.realAt(126), Double.doubleToLongBits(1.0));
            due("realAt(127)", x.realAt(127), 0x7ff8000000000000L);
        });
        for (double d : new double[] {0.0, 1.0, -1.0, LEAST, -LEAST, NORMAL, MOST, -MOST, INF, -INF, Math.PI}) {
            e.edge("of " + d, x -> {
                fillDoubles(x, 0, d);
                fill(x, 1, BYTES, 1);
                due("real", x.real(0, 1), 1);
                due("at beside", x.at(0, 1), 0);
                due("realAt(0)", x.realAt(0), Double.doubleToLongBits(d));
                due("fault() is left alone", x.fault(), INDEX);
            });
        }
        e.words("of what is not a number: UNKNOWN, too.");
        e.edge("an entry that is not a number", x -> {
            fillDoubles(x, 0, NAN);
            due("real", x.real(0, 0), 1);
            due("realAt(0)", x.realAt(0), 0x7ff8000000000000L);
        });
        for (int i : new int[] {-1, 5, 6, 126, 127, MIN, MAX}) {
            e.refusedBehind("entry " + i + " of 5", x -> { }, 0x7ff8000000000000L, x -> x.realAt(i));
        }
        for (int i : new int[] {-1, 0, 1}) {
            e.edge("entry " + i + " of none", x -> due("realAt", x.realAt(i), 0x7ff8000000000000L));
        }
        e.edge("an entry of the more that were there", x -> {
            fill(x, 0, BYTES, 1, 1);
            fill(x, 1, BYTES, 1);
            due("real", x.real(0, 1), 2);
            due("real", x.real(1, 1), 1);
            due("realAt(1)", x.realAt(1), 0x7ff8000000000000L);
        });
    }
}
