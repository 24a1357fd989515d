import com.sun.management.ThreadMXBean;
import java.lang.management.ManagementFactory;

/** All calls of a run share one room: an object is small, and only what brings a new ROW takes more, once. */
public final class RoomTest {
    private static final ThreadMXBean ROOM = (ThreadMXBean) ManagementFactory.getThreadMXBean();
    private static final int CALLS = 34;
    /** A ROW of 64 entries, its object, and their heads. */
    private static final long ONE_ROW = 64 * 8 + 64;

    public static void main(String[] args) {
        if (!ROOM.isThreadAllocatedMemorySupported()) {
            System.out.println("RoomTest: this machine does not tell");
            return;
        }
        // the first round takes what the machine itself takes only once
        madeBytes();
        long made = madeBytes();
        Check.holds("a new object takes " + made + " bytes", made < 24000);
        ConvolutionBench x = prepared();
        for (int call = 0; call < CALLS; call++) {
            act(x, call);
            long taken = takenBytes(x, call);
            boolean bringsRow = call == 0 || call == 10 || call == 18;
            Check.holds("call " + call + " takes " + taken + " bytes", taken <= (bringsRow ? ONE_ROW : 0));
        }
        Check.finish("RoomTest");
    }

    private static long madeBytes() {
        long before = ROOM.getCurrentThreadAllocatedBytes();
        ConvolutionBench x = new ConvolutionBench();
        long after = ROOM.getCurrentThreadAllocatedBytes();
        Check.due("new", x.fault(), 0);
        return after - before;
    }

    /** The least of some tries: the machine may take something for itself in between. */
    private static long takenBytes(ConvolutionBench x, int call) {
        long least = Long.MAX_VALUE;
        for (int round = 0; round < 5; round++) {
            long before = ROOM.getCurrentThreadAllocatedBytes();
            act(x, call);
            least = Math.min(least, ROOM.getCurrentThreadAllocatedBytes() - before);
        }
        return least;
    }

    private static ConvolutionBench prepared() {
        ConvolutionBench x = Rows.bench();
        long[] entries = new long[64];
        for (int i = 0; i < 64; i++) {
            entries[i] = i + 1;
        }
        for (int p = 0; p < 4; p++) {
            Rows.fill(x, p, p, entries);
        }
        Check.due("multiply", x.multiply(0, 0, 0), 127);
        Check.due("transform", x.transform(0, 0), 64);
        return x;
    }

    private static void act(ConvolutionBench x, int call) {
        switch (call) {
            case 0: x.row(4, 3, 64); break;
            case 1: x.share(5, 4); break;
            case 2: x.kind(5, 1); break;
            case 3: x.put(2, 63, 64); break;
            case 4: x.at(2, 1); break;
            case 5: x.as(2, 1, 2); break;
            case 6: x.reverse(6); break;
            case 7: x.shift(4, 3); break;
            case 8: x.root(0, 64); break;
            case 9: x.transform(0, 0); break;
            case 10: x.inverse(7); break;
            case 11: x.times(0); break;
            case 12: x.multiply(0, 1, 0); break;
            case 13: x.multiply(0, 1, 1); break;
            case 14: x.multiply(0, 2, 2); break;
            case 15: x.circular(0, 1, 64); break;
            case 16: x.correlate(0, 1); break;
            case 17: x.slide(3, 2); break;
            case 18: x.carry(8, 10000); break;
            case 19: x.cost(2, 64, 64); break;
            case 20: x.plan(64, 64); break;
            case 21: x.power(0, 0, 1000, 64); break;
            case 22: x.series(0, 0, 64); break;
            case 23: x.divide(0, 1, 0); break;
            case 24: x.evaluate(0, 1, 0); break;
            case 25: x.interpolate(0, 1, 0); break;
            case 26: x.residue(0); break;
            case 27: x.match(0, 1, 0); break;
            case 28: x.real(0, 3); break;
            case 29: x.realAt(0); break;
            case 30: x.reverse(0); break;
            case 31: x.multiply(9, 9, 0); break;
            case 32: x.high(0); break;
            default: x.told(0); break;
        }
    }
}
