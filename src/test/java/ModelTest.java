import java.util.Random;

/**
 * Long runs of any calls with any arguments, each answered by the class and by the Model: all 36 promises at once.
 * Looking at what is told goes past the 512 calls that the document promises; the class does not count its calls.
 */
public final class ModelTest {
    private static final int RUNS = 2000;
    private static final int CALLS = 512;
    private static final int MAKERS = 26;
    private static final int ALL = 35;
    private static final int[] ODD = {-1, 0, 1, 2, 3, 11, 12, 63, 64, 65, 126, 127, Integer.MIN_VALUE, Integer.MAX_VALUE};

    private final Random random;
    private final int style;
    private final ConvolutionBench x = new ConvolutionBench();
    private final Model y = new Model();

    private ModelTest(int run) {
        random = new Random(run);
        style = run % 4;
    }

    public static void main(String[] args) {
        int runs = args.length > 0 ? Integer.parseInt(args[0]) : RUNS;
        for (int run = 0; run < runs && !Check.anyWrong(); run++) {
            new ModelTest(run).play(run);
        }
        Check.finish("ModelTest");
    }

    private void play(int run) {
        for (int call = 0; call < CALLS && !Check.anyWrong(); call++) {
            // what makes something comes more often than what reads or it would seldom come to much
            int which = call < 20 ? 0 : random.nextInt(3) == 0 ? random.nextInt(ALL) : random.nextInt(MAKERS);
            act("run " + run + ", call " + call + ": ", which);
        }
    }

    private int place() {
        return random.nextInt(60) == 0 ? odd() : random.nextInt(12);
    }

    private int prime() {
        return random.nextInt(40) == 0 ? odd() : random.nextInt(3);
    }

    private int count() {
        int most = style == 0 ? 6 : style == 1 ? 17 : 64;
        return random.nextInt(30) == 0 ? odd() : 1 + random.nextInt(most);
    }

    private int index() {
        return random.nextInt(20) == 0 ? odd() : random.nextInt(style == 0 ? 7 : 64);
    }

    private int odd() {
        return ODD[random.nextInt(ODD.length)];
    }

    private long number() {
        switch (random.nextInt(8)) {
            case 0: return random.nextLong();
            case 1: return random.nextInt();
            case 2: return Double.doubleToLongBits(random.nextGaussian() * 100);
            case 3: return Rows.PRIMES[random.nextInt(3)] * (random.nextInt(5) - 2);
            case 4: return Double.doubleToLongBits(Math.scalb(1.0, random.nextInt(2100) - 1075));
            case 5: return ((random.nextLong() & 1) << 63) | (random.nextInt(10) == 0 ? 0x7ff0000000000000L : 0);
            default: return random.nextInt(6) - (style == 3 ? 0 : 2);
        }
    }

    private void due(String what, long got, long want) {
        Check.due(what, got, want);
        Check.due(what + ", then fault()", x.fault(), y.fault());
    }

    private void act(String w, int which) {
        int p = place();
        int q = place();
        int i = index();
        int n = count();
        int r = prime();
        long v = number();
        switch (which) {
            case 0: {
                int lane = random.nextInt(25) == 0 ? odd() : random.nextInt(random.nextInt(3) == 0 ? 5 : 3);
                due(w + "row(" + p + ", " + lane + ", " + n + ")", x.row(p, lane, n), y.row(p, lane, n));
                fill(w, p);
                break;
            }
            case 1: due(w + "put(" + p + ", " + i + ", " + v + ")", x.put(p, i, v), y.put(p, i, v)); break;
            case 2: due(w + "share(" + p + ", " + q + ")", x.share(p, q), y.share(p, q)); break;
            case 3: due(w + "reverse(" + p + ")", x.reverse(p), y.reverse(p)); break;
            case 4: {
                int k = random.nextInt(5) == 0 ? random.nextInt() : random.nextInt(200) - 100;
                due(w + "shift(" + p + ", " + k + ")", x.shift(p, k), y.shift(p, k));
                break;
            }
            case 5: due(w + "transform(" + p + ", " + r + ")", x.transform(p, r), y.transform(p, r)); break;
            case 6: due(w + "times(" + p + ")", x.times(p), y.times(p)); break;
            case 7: due(w + "inverse(" + p + ")", x.inverse(p), y.inverse(p)); break;
            case 8: case 9: due(w + "multiply(" + p + ", " + q + ", " + r + ")", x.multiply(p, q, r), y.multiply(p, q, r)); break;
            case 10: due(w + "circular(" + p + ", " + q + ", " + n + ")", x.circular(p, q, n), y.circular(p, q, n)); break;
            case 11: due(w + "correlate(" + p + ", " + q + ")", x.correlate(p, q), y.correlate(p, q)); break;
            case 12: due(w + "slide(" + p + ", " + n + ")", x.slide(p, n), y.slide(p, n)); break;
            case 13: case 14: {
                int base = random.nextInt(10) == 0 ? odd() : random.nextBoolean() ? random.nextInt(10003) : random.nextInt(12);
                due(w + "carry(" + p + ", " + base + ")", x.carry(p, base), y.carry(p, base));
                break;
            }
            case 15: {
                int k = random.nextInt(20) == 0 ? odd() : random.nextInt(60) == 0 ? 998 + random.nextInt(5) : random.nextInt(12);
                due(w + "power(" + p + ", " + r + ", " + k + ", " + n + ")", x.power(p, r, k, n), y.power(p, r, k, n));
                break;
            }
            case 16: due(w + "series(" + p + ", " + r + ", " + n + ")", x.series(p, r, n), y.series(p, r, n)); break;
            case 17: case 18: due(w + "divide(" + p + ", " + q + ", " + r + ")", x.divide(p, q, r), y.divide(p, q, r)); break;
            case 19: due(w + "evaluate(" + p + ", " + q + ", " + r + ")", x.evaluate(p, q, r), y.evaluate(p, q, r)); break;
            case 20: case 21: interpolate(w, p, q, r, n); break;
            case 22: case 23: due(w + "match(" + p + ", " + q + ", " + v + ")", x.match(p, q, v), y.match(p, q, v)); break;
            case 24: case 25: due(w + "real(" + p + ", " + q + ")", x.real(p, q), y.real(p, q)); break;
            default: read(w, which, p, i, n); break;
        }
        look(w);
    }

    /** Points that differ and values of their number are rare by chance alone. */
    private void interpolate(String w, int p, int q, int r, int n) {
        if (random.nextBoolean()) {
            due(w + "row", x.row(p, 3, n), y.row(p, 3, n));
            due(w + "row", x.row(q, 2, n), y.row(q, 2, n));
            for (int i = 0; i < n && n <= 64; i++) {
                long v = random.nextInt(500) == 0 ? 0 : random.nextLong();
                due(w + "put", x.put(p, i, v), y.put(p, i, v));
                due(w + "put", x.put(q, i, v >> 7), y.put(q, i, v >> 7));
            }
        }
        due(w + "interpolate(" + p + ", " + q + ", " + r + ")", x.interpolate(p, q, r), y.interpolate(p, q, r));
    }

    private void fill(String w, int p) {
        int size = y.kind(p, 1);
        for (int i = 0; i < size; i++) {
            if (random.nextInt(4) == 0) continue;
            long v = number();
            due(w + "put", x.put(p, i, v), y.put(p, i, v));
        }
    }

    private void read(String w, int which, int p, int i, int n) {
        int m = count();
        int lane = random.nextInt(9) - 2;
        int prime = prime();
        switch (which) {
            case 26: due(w + "kind(" + p + ", " + lane + ")", x.kind(p, lane), y.kind(p, lane)); break;
            case 27: due(w + "at(" + p + ", " + i + ")", x.at(p, i), y.at(p, i)); break;
            case 28: case 29: due(w + "as(" + p + ", " + i + ", " + lane + ")", x.as(p, i, lane), y.as(p, i, lane)); break;
            case 30: due(w + "root(" + prime + ", " + n + ")", x.root(prime, n), y.root(prime, n)); break;
            case 31: due(w + "cost(" + prime + ", " + n + ", " + m + ")", x.cost(prime, n, m), y.cost(prime, n, m)); break;
            case 32: due(w + "plan(" + n + ", " + m + ")", x.plan(n, m), y.plan(n, m)); break;
            case 33: due(w + "told(" + lane + ")", x.told(lane), y.told(lane)); break;
            default: due(w + "fault()", x.fault(), y.fault()); break;
        }
    }

    /** All that can be read beside the places, and one place: a call must leave alone what is not its own. */
    private void look(String w) {
        for (int what = 0; what < 7; what++) {
            Check.due(w + "told(" + what + ")", x.told(what), y.told(what));
        }
        int most = Math.max(Math.max(y.told(0), y.told(2)), Math.max(y.told(3), Math.max(y.told(4), y.told(6))));
        for (int i = -1; i <= most; i++) {
            Check.due(w + "value(" + i + ")", x.value(i), y.value(i));
            Check.due(w + "high(" + i + ")", x.high(i), y.high(i));
            Check.due(w + "low(" + i + ")", x.low(i), y.low(i));
            Check.due(w + "residue(" + i + ")", x.residue(i), y.residue(i));
            Check.due(w + "rest(" + i + ")", x.rest(i), y.rest(i));
            Check.due(w + "matchAt(" + i + ")", x.matchAt(i), y.matchAt(i));
            Check.due(w + "realAt(" + i + ")", x.realAt(i), y.realAt(i));
        }
        int p = random.nextInt(12);
        Check.due(w + "kind(" + p + ", 0)", x.kind(p, 0), y.kind(p, 0));
        Check.due(w + "kind(" + p + ", 1)", x.kind(p, 1), y.kind(p, 1));
        // not after every call, for at() sets fault(), and what comes next may have to keep it
        for (int i = random.nextInt(4) == 0 ? 0 : 64; i < Math.max(1, y.kind(p, 1)); i++) {
            Check.due(w + "at(" + p + ", " + i + ")", x.at(p, i), y.at(p, i));
        }
    }
}
