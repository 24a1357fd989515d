import java.math.BigInteger;

/** The boundary cases of the section 'Terms', each tried by a call of the promise that it names. */
public final class TermsEdgesTest extends EdgeNames {
    public static void main(String[] args) {
        Edges e = new Edges();
        list(e);
        e.run("TermsEdgesTest");
    }

    static void list(Edges e) {
        calls(e);
        refusals(e);
        refusalsChangeNothing(e);
        faults(e);
        faultsInTheirOrder(e);
        stateBehindFaults(e);
        places(e);
        lanes(e);
        entries(e);
        primes(e);
        whatIsMade(e);
        madeAnew(e);
        nothingIsLeftOver(e);
        transform(e);
        cost(e);
    }

    private static void calls(Edges e) {
        e.words("An object is used for at most 512 calls after it has been made; what later calls answer is free.");
        e.termsBy(2);
        e.edge("512 new ROWS", x -> {
            for (int call = 1; call <= 512; call++) {
                due("call " + call, x.row(call % 12, call % 5, 64), 1);
            }
        });
        e.termsBy(15);
        e.edge("the 512th call is answered as the first", x -> {
            fill(x, 0, INTS, all(64, MIN));
            for (int call = 66; call < 512; call++) {
                due("call " + call, x.multiply(0, 0, call % 2 * 2), 127);
            }
            due("call 512", x.high(63), 16);
        });
        e.termsBy(35);
        e.edge("the 512th call tells the FAULT of the 511th", x -> {
            for (int call = 1; call <= 511; call++) {
                due("call " + call, x.root(0, 3), 0);
            }
            due("call 512", x.fault(), ZERO);
        });
    }

    private static void oneBelowZero(ConvolutionBench x) {
        fill(x, 6, BYTES, all(64, 1));
        due("put", x.put(6, 0, -1), 1);
        due("multiply", x.multiply(6, 6, 0), 127);
    }

    private static void refusals(Edges e) {
        e.words("What the machine itself has against an act is caught by its kind and told.");
        e.termsBy(5);
        e.faulted("nothing there", NULL, x -> x.put(NOTHING, 0, 1));
        e.faulted("no such index", INDEX, x -> x.put(0, 4, 1));
        e.termsBy(7);
        e.faulted("another class of array", CAST, x -> x.as(0, 0, BYTES));
        e.termsBy(2);
        e.faulted("an array of less than none", SIZE, x -> x.row(0, BYTES, MIN));
        e.words("REFUSALS, the first of these that fits: UNKNOWN (there is no such PLACE, PRIME, entry)");
        e.refused("UNKNOWN place ahead of OUTSIDE", UNKNOWN, x -> x.row(12, 5, 0));
        e.termsBy(24);
        e.refused("UNKNOWN PRIME ahead of OUTSIDE", UNKNOWN, x -> x.power(0, 3, 1001, 65));
        e.termsBy(14);
        e.edge("UNKNOWN place ahead of STATE", x -> due("inverse", x.inverse(12), UNKNOWN));
        e.termsBy(13);
        e.refused("UNKNOWN entry", UNKNOWN, x -> x.value(4));
        e.termsBy(29);
        e.refused("UNKNOWN entry", UNKNOWN, x -> x.residue(2));
        e.words("OUTSIDE (another number is not as told)");
        e.termsBy(21);
        e.edge("OUTSIDE ahead of STATE", x -> due("carry", x.carry(0, 1), OUTSIDE));
        e.refusedBehind("OUTSIDE ahead of FULL", x -> {
            fill(x, 6, BYTES, all(64, 1));
            due("multiply", x.multiply(6, 6, 0), 127);
        }, OUTSIDE, x -> x.carry(0, 10001));
        e.words("STATE (as told), FULL");
        e.refusedBehind("STATE ahead of FULL", TermsEdgesTest::oneBelowZero, STATE, x -> x.carry(0, 2));
        e.refusedBehind("FULL, where nothing else fits", x -> {
            fill(x, 6, BYTES, all(64, 1));
            due("multiply", x.multiply(6, 6, 0), 127);
        }, FULL, x -> x.carry(0, 10000));
    }

    private static void refusalsChangeNothing(Edges e) {
        e.words("they change nothing (but fault(), of a call that names FAULTS).");
        e.termsBy(2);
        e.refused("UNKNOWN", UNKNOWN, x -> x.row(-1, BYTES, 1));
        e.refused("OUTSIDE", OUTSIDE, x -> x.row(0, BYTES, 65));
        e.termsBy(11);
        e.refused("STATE", STATE, x -> x.transform(2, 0));
        e.termsBy(15);
        e.refusedBehind("STATE", x -> fill(x, 6, INTS, MIN), STATE, x -> x.multiply(6, 6, 1));
        e.termsBy(28);
        e.refused("STATE", STATE, x -> x.interpolate(0, 1, 0));
        e.termsBy(3);
        e.refused("UNKNOWN, and not fault() either", UNKNOWN, x -> x.share(0, 12));
        e.termsBy(14);
        e.refused("UNKNOWN, and not fault() either", UNKNOWN, x -> x.inverse(-1));
        e.termsBy(21);
        e.refused("OUTSIDE, and not fault() either", OUTSIDE, x -> x.carry(0, 0));
        e.refusedBehind("STATE, and not fault() either", TermsEdgesTest::oneBelowZero, STATE, x -> x.carry(0, 10));
    }

    private static void faults(Edges e) {
        e.words("FAULTS are the machine's: 1 NULL (a PLACE has nothing)");
        e.termsBy(8);
        e.faulted("-11", 1, x -> x.reverse(NOTHING));
        e.words("2 CAST (a ROW of another LANE)");
        e.termsBy(11);
        e.faulted("-12", 2, x -> x.transform(4, 0));
        e.words("3 INDEX");
        e.termsBy(5);
        e.faulted("-13", 3, x -> x.put(0, -1, 1));
        e.words("4 SIZE (a count below 0)");
        e.termsBy(2);
        e.faulted("-14", 4, x -> x.row(0, BYTES, -1));
        e.refused("a count that is 0 is none", OUTSIDE, x -> x.row(0, BYTES, 0));
        e.words("5 ZERO (something is divided by 0, or over a PRIME by what is 0 there).");
        e.termsBy(26);
        e.faultedBehind("-15, by 0", x -> fill(x, 6, BYTES, 0), 5, x -> x.divide(0, 6, 0));
        e.faultedBehind("-15, by what is 0 over the PRIME", x -> fill(x, 6, LONGS, P1), 5, x -> x.divide(0, 6, 1));
        e.termsBy(10);
        e.faulted("n does not divide", 5, x -> x.root(0, 3));
        e.words("it answers -10 less it (0, where a long is answered) and changes nothing; fault() tells it.");
        e.termsBy(6);
        e.faulted("0, NULL", NULL, x -> x.at(NOTHING, 0));
        e.faulted("0, INDEX", INDEX, x -> x.at(0, 4));
        e.termsBy(7);
        e.faulted("0, CAST", CAST, x -> x.as(0, 0, LONGS));
        e.termsBy(10);
        e.faulted("0, ZERO", ZERO, x -> x.root(2, 64 - 1));
        e.termsBy(25);
        e.faultedBehind("-15, ZERO", x -> fill(x, 6, BYTES, 0, 1), ZERO, x -> x.series(6, 0, 2));
        e.termsBy(28);
        e.faulted("-15, ZERO", ZERO, x -> x.interpolate(2, 2, 0));
    }

    private static void faultsInTheirOrder(Edges e) {
        e.words("Of a call the first that is come to, in the order told");
        e.termsBy(5);
        e.faulted("NULL ahead of INDEX", NULL, x -> x.put(NOTHING, 64, 1));
        e.termsBy(6);
        e.faulted("NULL ahead of INDEX", NULL, x -> x.at(NOTHING, -1));
        e.termsBy(7);
        e.faulted("CAST ahead of INDEX", CAST, x -> x.as(0, -1, BYTES));
        e.faulted("nothing has no LANE: NULL", NULL, x -> x.as(NOTHING, -1, BYTES));
        e.termsBy(15);
        e.faulted("NULL of b ahead of CAST of a", NULL, x -> x.multiply(4, NOTHING, 0));
        e.termsBy(25);
        e.faultedBehind("CAST ahead of ZERO", x -> x.row(4, DOUBLES, 1), CAST, x -> x.series(4, 0, 1));
        e.termsBy(26);
        e.faultedBehind("NULL of a ahead of ZERO", x -> x.row(6, BYTES, 1), NULL, x -> x.divide(NOTHING, 6, 0));
        e.faultedBehind("CAST of a ahead of ZERO", x -> x.row(6, BYTES, 1), CAST, x -> x.divide(4, 6, 0));
        e.termsBy(2);
        e.refused("refusals are asked ahead of them: OUTSIDE ahead of SIZE", OUTSIDE, x -> x.row(0, 5, -1));
        e.termsBy(16);
        e.refused("refusals are asked ahead of them: OUTSIDE ahead of NULL", OUTSIDE, x -> x.circular(NOTHING, 0, 65));
        e.termsBy(24);
        e.refused("refusals are asked ahead of them: OUTSIDE ahead of CAST", OUTSIDE, x -> x.power(4, 0, 1, 0));
    }

    private static void stateBehindFaults(Edges e) {
        e.words("STATE that is told behind FAULTS is asked behind them.");
        e.termsBy(11);
        e.faultedBehind("CAST ahead of STATE", x -> x.row(4, DOUBLES, 3), CAST, x -> x.transform(4, 0));
        e.termsBy(12);
        e.edge("NULL ahead of STATE", x -> Rows.dueFault("times", x, x.times(0), NULL));
        e.edge("CAST ahead of STATE", x -> {
            due("row", x.row(0, DOUBLES, 2), 1);
            Rows.dueFault("times", x, x.times(0), CAST);
        });
        e.termsBy(15);
        e.faultedBehind("CAST of b ahead of STATE", x -> {
            fill(x, 6, INTS, MIN);
            fill(x, 7, LONGS, MIN);
        }, CAST, x -> x.multiply(6, 7, 1));
        e.termsBy(28);
        e.faulted("NULL ahead of STATE", NULL, x -> x.interpolate(0, NOTHING, 0));
        e.faulted("CAST ahead of STATE", CAST, x -> x.interpolate(0, 4, 0));
        e.refused("STATE, as it is told, ahead of ZERO", STATE, x -> x.interpolate(2, 0, 0));
        e.words("NONE is -9.");
        e.termsBy(4);
        e.edge("of a place", x -> due("kind", x.kind(0, 0), -9));
        e.termsBy(32);
        e.edge("of THE FITS", x -> due("matchAt", x.matchAt(0), -9));
        e.termsBy(36);
        e.edge("of a PRIME", x -> due("told(1)", x.told(1), -9));
    }

    private static void places(Edges e) {
        e.words("PLACES 0 .. 11 have a ROW, or nothing (at first).");
        e.termsBy(2);
        for (int p = 0; p < 12; p++) {
            int place = p;
            e.edge("place " + p, x -> {
                due("kind", x.kind(place, 0), NONE);
                due("row", x.row(place, SHORTS, 3), 1);
                due("kind", x.kind(place, 0), SHORTS);
            });
        }
        for (int p : NO_PLACES) {
            e.refused("no place " + p, UNKNOWN, x -> x.row(p, SHORTS, 3));
        }
        e.edge("all of them at once, each its own", x -> {
            for (int p = 0; p < 12; p++) {
                fill(x, p, BYTES, p);
            }
            for (int p = 0; p < 12; p++) {
                due("at", x.at(p, 0), p);
            }
        });
    }

    private static void lanes(Edges e) {
        e.words("A ROW is of a LANE: 0 BYTES, 1 SHORTS, 2 INTS, 3 LONGS, 4 DOUBLES, with n ENTRIES (1 .. 64), 0 at first.");
        e.termsBy(2);
        long wide = 0x1122334455667788L;
        long[] kept = {(byte) wide, (short) wide, (int) wide, wide, wide};
        for (int lane = 0; lane < 5; lane++) {
            int of = lane;
            e.edge("LANE " + lane, x -> {
                due("row", x.row(0, of, 64), 1);
                due("at(0, 0)", x.at(0, 0), 0);
                due("at(0, 63)", x.at(0, 63), 0);
                due("put", x.put(0, 63, wide), 1);
                due("at(0, 63)", x.at(0, 63), kept[of]);
            });
        }
        for (int lane : new int[] {-1, 5}) {
            e.refused("no LANE " + lane, OUTSIDE, x -> x.row(0, lane, 1));
        }
        e.words("WHOLE are LANES 0 .. 3");
        e.termsBy(18);
        for (int lane = 0; lane < 4; lane++) {
            int of = lane;
            e.edge("LANE " + lane, x -> {
                due("row", x.row(0, of, 1), 1);
                due("slide", x.slide(0, 1), 1);
            });
        }
        e.faulted("not LANE 4", CAST, x -> x.slide(4, 1));
        e.words("SMALL are 0 .. 2.");
        e.termsBy(15);
        for (int lane = 0; lane < 3; lane++) {
            int of = lane;
            e.edge("LANE " + lane, x -> {
                due("row", x.row(0, of, 1), 1);
                due("multiply", x.multiply(0, 0, 0), 1);
            });
        }
        e.faulted("not LANE 3", CAST, x -> x.multiply(3, 3, 0));
        e.faulted("not LANE 4", CAST, x -> x.multiply(4, 4, 0));
    }

    private static void entries(Edges e) {
        e.words("ENTRIES are told as longs: DOUBLES by BITS (Double.doubleToLongBits), others with their signs");
        e.termsBy(6);
        e.edge("DOUBLES", x -> {
            fillDoubles(x, 0, -1.0, -0.0, Double.NEGATIVE_INFINITY);
            Rows.dueRow("BITS", x, 0, 0xbff0000000000000L, 0x8000000000000000L, 0xfff0000000000000L);
        });
        for (int lane = 0; lane < 4; lane++) {
            int of = lane;
            e.edge("a sign in LANE " + lane, x -> {
                fill(x, 0, of, -2);
                due("at", x.at(0, 0), -2);
            });
        }
        e.words("an ENTRY becomes a long: a DOUBLE that of these BITS (of any that is not a number that of Double.NaN), others it,"
            + " cast.");
        e.termsBy(5);
        long[][] doubles = {{1, 1}, {0x7ff0000000000000L, 0x7ff0000000000000L}, {0x7ff0000000000001L, 0x7ff8000000000000L},
            {0xfff0000000000000L, 0xfff0000000000000L}, {0xfff0000000000001L, 0x7ff8000000000000L}, {-1, 0x7ff8000000000000L}};
        for (long[] pair : doubles) {
            e.edge("a DOUBLE of the BITS " + Long.toHexString(pair[0]), x -> {
                fill(x, 0, DOUBLES, pair[0]);
                due("at", x.at(0, 0), pair[1]);
            });
        }
        e.edge("cast to a BYTE", x -> {
            fill(x, 0, BYTES, 0x180);
            due("at", x.at(0, 0), -128);
        });
        e.edge("cast to a SHORT", x -> {
            fill(x, 0, SHORTS, 0x18000);
            due("at", x.at(0, 0), -32768);
        });
        e.edge("cast to an INT", x -> {
            fill(x, 0, INTS, 0x180000000L);
            due("at", x.at(0, 0), MIN);
        });
    }

    private static void primes(Edges e) {
        String[] named = {"PRIMES: 0: 998244353", "1: 1004535809", "2: 469762049"};
        for (int q = 0; q < 3; q++) {
            int prime = q;
            long p = Rows.PRIMES[q];
            e.words(named[q]);
            e.termsBy(24);
            e.edge("it leaves 0, and its neighbours do not", x -> {
                fill(x, 0, LONGS, p - 1, p, p + 1);
                due("power", x.power(0, prime, 1, 3), 3);
                Rows.dueResidues("RESIDUES", x, p - 1, 0, 1);
            });
            e.words("over a PRIME P all is reckoned modulo P, told as 0 .. P - 1; the RESIDUE of a whole number is what it leaves so"
                + " (also one below 0).");
            e.edge("below 0, PRIME " + q, x -> {
                fill(x, 0, LONGS, -1, -p, -p - 1, 1 - p, Long.MIN_VALUE, Long.MAX_VALUE);
                due("power", x.power(0, prime, 1, 6), 6);
                BigInteger modulus = BigInteger.valueOf(p);
                Rows.dueResidues("RESIDUES", x, p - 1, 0, p - 1, 1, BigInteger.valueOf(Long.MIN_VALUE).mod(modulus).longValue(),
                    BigInteger.valueOf(Long.MAX_VALUE).mod(modulus).longValue());
            });
            e.edge("the greatest product, PRIME " + q, x -> {
                fill(x, 0, LONGS, -1);
                due("power", x.power(0, prime, 2, 1), 1);
                Rows.dueResidues("RESIDUES", x, 1);
            });
            e.words("The ROOT of a PRIME for n, if n divides P - 1, is 3 to the (P - 1) / n, over P.");
            e.termsBy(10);
            e.edge("for 1 it is 1, for 2 it is P - 1, PRIME " + q, x -> {
                due("root(.., 1)", x.root(prime, 1), 1);
                due("root(.., 2)", x.root(prime, 2), p - 1);
            });
            e.edge("for 64: its 32nd power is P - 1, PRIME " + q, x -> {
                BigInteger root = BigInteger.valueOf(x.root(prime, 64));
                due("power", root.modPow(BigInteger.valueOf(32), BigInteger.valueOf(p)).longValue(), p - 1);
            });
            e.faulted("3 does not divide P - 1, PRIME " + q, ZERO, x -> x.root(prime, 3));
        }
        e.termsBy(11);
        e.words("PRIMES: 0: 998244353");
        for (int prime : NO_PRIMES) {
            e.refused("there is no PRIME " + prime, UNKNOWN, x -> x.transform(0, prime));
        }
    }

    private static void whatIsMade(Edges e) {
        e.words("THE SPECTRUM (none at first) is of a PRIME and has n values.");
        e.termsBy(11);
        e.edge("none at first, then n of a PRIME", x -> {
            due("told(0)", x.told(0), 0);
            due("told(1)", x.told(1), NONE);
            due("row", x.row(0, BYTES, 64), 1);
            due("transform", x.transform(0, 2), 64);
            due("told(0)", x.told(0), 64);
            due("told(1)", x.told(1), 2);
        });
        e.words("THE PRODUCT (no entries at first) has exact whole numbers");
        e.termsBy(16);
        e.edge("none at first, then one above 64 bits", x -> {
            due("told(2)", x.told(2), 0);
            fill(x, 0, INTS, all(64, MIN));
            due("circular", x.circular(0, 0, 1), 1);
            due("high(0)", x.high(0), 1024);
            due("low(0)", x.low(0), 0);
        });
        e.words("THE RESIDUES, THE RESTS (none at first) have numbers over a PRIME");
        e.termsBy(26);
        e.edge("none at first, then numbers not below 0", x -> {
            due("told(3)", x.told(3), 0);
            due("told(4)", x.told(4), 0);
            fill(x, 0, BYTES, -1, -1);
            fill(x, 1, BYTES, 0, 1);
            due("divide", x.divide(0, 1, 2), 1);
            Rows.dueResidues("RESIDUES", x, P2 - 1);
            Rows.dueRests("RESTS", x, P2 - 1);
        });
        e.words("THE FITS are places");
        e.termsBy(31);
        e.edge("places of the text, from 0 on", x -> {
            fill(x, 0, BYTES, 8, 7, 8);
            fill(x, 1, BYTES, 8);
            due("match", x.match(0, 1, 0), 2);
            Rows.dueFits("FITS", x, 0, 2);
        });
        e.words("THE REALS are doubles.");
        e.termsBy(33);
        e.edge("told by their BITS", x -> {
            fill(x, 0, INTS, -3);
            fill(x, 1, INTS, 1);
            due("real", x.real(0, 1), 1);
            due("realAt", x.realAt(0), Double.doubleToLongBits(-3.0));
        });
    }

    private static void madeAnew(Edges e) {
        e.words("What a call makes anew takes the place of what was there, if it is not refused and comes to no FAULT.");
        // on the laid table: what each call leaves of 4 values, PRIME 1, 7 entries, 2 RESIDUES, 2 RESTS, 1 FIT, 5 REALS
        anew(e, 11, "transform", x -> x.transform(1, 2), 2, 2, 7, 2, 2, 1, 5);
        anew(e, 12, "times", x -> x.times(0), 4, 1, 7, 2, 2, 1, 5);
        anew(e, 15, "multiply", x -> x.multiply(1, 1, 2), 4, 1, 3, 2, 2, 1, 5);
        anew(e, 16, "circular", x -> x.circular(0, 1, 64), 4, 1, 64, 2, 2, 1, 5);
        anew(e, 17, "correlate", x -> x.correlate(1, 1), 4, 1, 3, 2, 2, 1, 5);
        anew(e, 18, "slide", x -> x.slide(0, 64), 4, 1, 0, 2, 2, 1, 5);
        anew(e, 24, "power", x -> x.power(0, 0, 0, 64), 4, 1, 7, 64, 2, 1, 5);
        anew(e, 25, "series", x -> x.series(0, 0, 1), 4, 1, 7, 1, 2, 1, 5);
        anew(e, 26, "divide", x -> x.divide(0, 1, 0), 4, 1, 7, 3, 1, 1, 5);
        anew(e, 26, "divide without a quotient", x -> x.divide(1, 0, 0), 4, 1, 7, 0, 3, 1, 5);
        anew(e, 27, "evaluate", x -> x.evaluate(0, 2, 0), 4, 1, 7, 3, 2, 1, 5);
        anew(e, 28, "interpolate", x -> x.interpolate(0, 0, 0), 4, 1, 7, 4, 2, 1, 5);
        anew(e, 31, "match", x -> x.match(0, 2, 1), 4, 1, 7, 2, 2, 2, 5);
        anew(e, 31, "match without fits", x -> x.match(1, 0, 9), 4, 1, 7, 2, 2, 0, 5);
        anew(e, 33, "real", x -> x.real(4, 4), 4, 1, 7, 2, 2, 1, 3);
        anew(e, 14, "inverse makes but a ROW", x -> x.inverse(6), 4, 1, 7, 2, 2, 1, 5);
        anew(e, 21, "carry makes but a ROW", x -> x.carry(6, 10), 4, 1, 7, 2, 2, 1, 5);
        e.termsBy(11);
        e.refused("not if it is refused", STATE, x -> x.transform(2, 0));
        e.faulted("not if it comes to a FAULT", CAST, x -> x.transform(4, 0));
        e.termsBy(25);
        e.refused("not if it is refused", OUTSIDE, x -> x.series(0, 0, 65));
        e.faultedBehind("not if it comes to a FAULT", x -> fill(x, 6, BYTES, 0), ZERO, x -> x.series(6, 0, 64));
    }

    /** A bench on which each call has made as much as it can, so that what were left of it would be seen. */
    private static ConvolutionBench used() {
        ConvolutionBench x = new ConvolutionBench();
        fill(x, 10, BYTES, rising(64, 1));
        due("transform", x.transform(10, 0), 64);
        due("times", x.times(10), 64);
        for (int way = 0; way < 3; way++) {
            due("multiply", x.multiply(10, 10, way), 127);
        }
        due("power", x.power(10, 0, 3, 64), 64);
        due("series", x.series(10, 0, 64), 64);
        due("interpolate", x.interpolate(10, 10, 0), 64);
        due("divide", x.divide(10, 10, 0), 1);
        due("evaluate", x.evaluate(10, 10, 0), 64);
        due("match", x.match(10, 10, 0), 1);
        due("real", x.real(10, 10), 127);
        return x;
    }

    private static void nothingIsLeftOver(Edges e) {
        fresh(e, 11, "transform", 0, x -> x.transform(0, 1));
        fresh(e, 11, "transform, its PRIME", 1, x -> x.transform(0, 1));
        for (int w = 0; w < 3; w++) {
            int way = w;
            fresh(e, 15, "multiply by way " + way, 2, x -> x.multiply(0, 1, way));
        }
        fresh(e, 16, "circular", 2, x -> x.circular(0, 1, 7));
        fresh(e, 17, "correlate", 2, x -> x.correlate(0, 1));
        fresh(e, 18, "slide", 2, x -> x.slide(0, 2));
        for (int n : new int[] {1, 3, 64}) {
            fresh(e, 24, "power to the 0, n is " + n, 3, x -> x.power(0, 0, 0, n));
            fresh(e, 24, "power to the 5, n is " + n, 3, x -> x.power(0, 0, 5, n));
            fresh(e, 25, "series, n is " + n, 3, x -> x.series(0, 0, n));
        }
        fresh(e, 26, "divide, the quotient", 3, x -> x.divide(1, 0, 0));
        fresh(e, 26, "divide, the rest", 4, x -> x.divide(1, 0, 0));
        fresh(e, 26, "divide a shorter one, the rest", 4, x -> x.divide(0, 1, 0));
        fresh(e, 27, "evaluate", 3, x -> x.evaluate(0, 1, 0));
        fresh(e, 28, "interpolate", 3, x -> x.interpolate(0, 0, 0));
        fresh(e, 31, "match", 5, x -> x.match(1, 0, -2));
        fresh(e, 33, "real", 6, x -> x.real(0, 1));
    }

    /** A call on short ROWS makes the same on a bench that has made much as on a new one. */
    private static void fresh(Edges e, int promise, String what, int made, Edges.Call call) {
        e.termsBy(promise);
        e.edge(what + ", behind calls that made more", x -> {
            ConvolutionBench y = used();
            for (ConvolutionBench one : new ConvolutionBench[] {x, y}) {
                fill(one, 0, SHORTS, 3, -2);
                fill(one, 1, SHORTS, -2, 5, -2, 7);
            }
            due("how many", call.on(y), call.on(x));
            String want = Table.made(x, made);
            String got = Table.made(y, made);
            Check.holds("made " + got + ", due is " + want, got.equals(want));
        });
    }

    private static void anew(Edges e, int promise, String what, Edges.Call call, int... told) {
        e.termsBy(promise);
        e.edge(what, x -> {
            ConvolutionBench y = Table.laid();
            due("the call is taken", call.on(y) >= 0 ? 1 : 0, 1);
            for (int i = 0; i < told.length; i++) {
                due("told(" + i + ")", y.told(i), told[i]);
            }
        });
    }

    private static void transform(Edges e) {
        e.words("THE TRANSFORM of a ROW x of n ENTRIES over a PRIME: value j is the sum over i of RESIDUE x(i) times w to the i j, w"
            + " being the ROOT for n.");
        e.termsBy(11);
        for (int q = 0; q < 3; q++) {
            int prime = q;
            long p = Rows.PRIMES[q];
            e.edge("an ENTRY 0 alone: all values are it, PRIME " + q, x -> {
                fill(x, 0, BYTES, -1, 0, 0, 0);
                due("transform", x.transform(0, prime), 4);
                Rows.dueSpectrum("values", x, p - 1, p - 1, p - 1, p - 1);
            });
            e.edge("an ENTRY 1 alone: the powers of w, rising, PRIME " + q, x -> {
                fill(x, 0, BYTES, 0, 1, 0, 0);
                due("transform", x.transform(0, prime), 4);
                long w = x.root(prime, 4);
                Rows.dueSpectrum("values", x, 1, w, p - 1, p - w);
            });
            e.edge("ENTRIES all 1: n, then 0s, PRIME " + q, x -> {
                fill(x, 0, BYTES, all(64, 1));
                due("transform", x.transform(0, prime), 64);
                Rows.dueSpectrum("values", x, only(64, 0, 64));
            });
        }
    }

    private static void cost(Edges e) {
        e.termsBy(22);
        e.words("COST of a product of rows of n and m ENTRIES by a way: way 0: n m");
        e.edge("1 by 1 and 64 by 64", x -> {
            due("cost", x.cost(0, 1, 1), 1);
            due("cost", x.cost(0, 64, 64), 4096);
        });
        e.words("with L the least power of two that is not below n + m - 1, and l its exponent: way 1: 3 L l / 2 and 2 L");
        // n + m - 1 at a power of two, and one above it
        int[][] ones = {{1, 1, 2}, {1, 2, 7}, {2, 2, 20}, {2, 3, 20}, {3, 3, 52}, {4, 5, 52}, {5, 5, 128}, {8, 9, 128}, {9, 9, 304},
            {16, 17, 304}, {17, 17, 704}, {32, 33, 704}, {33, 33, 1600}, {64, 64, 1600}};
        for (int[] one : ones) {
            e.edge("n + m - 1 is " + (one[0] + one[1] - 1), x -> {
                due("cost", x.cost(1, one[0], one[1]), one[2]);
                due("cost, the other way round", x.cost(1, one[1], one[0]), one[2]);
            });
        }
        e.words("way 2: three times that of way 1, and 6 (n + m - 1).");
        for (int[] one : ones) {
            int ends = one[0] + one[1] - 1;
            e.edge("n + m - 1 is " + ends, x -> due("cost", x.cost(2, one[0], one[1]), 3 * one[2] + 6 * ends));
        }
    }
}
