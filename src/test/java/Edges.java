import java.util.ArrayList;
import java.util.List;
import java.util.Set;
import java.util.TreeSet;

/** Boundary cases of the document. Each is a test of its own, with its promise and the document's words that it holds. */
final class Edges {
    /** Stands where a promise's number stands, for what the section 'Terms' says of all of them. */
    static final int TERMS = 0;

    /** The promises that name FAULTS, and of these the ones that answer a long. */
    private static final Set<Integer> NAME_FAULTS =
        Set.of(2, 5, 6, 7, 8, 9, 10, 11, 12, 15, 16, 17, 18, 24, 25, 26, 27, 28, 31, 33);
    private static final Set<Integer> ANSWER_LONGS = Set.of(6, 7, 10);

    interface Act {
        void on(ConvolutionBench x);
    }

    interface Call {
        long on(ConvolutionBench x);
    }

    record Edge(int promise, String words, String what, Act act) {
        String name() {
            return (promise == TERMS ? "Terms" : "promise " + promise) + ", '" + words + "', " + what;
        }
    }

    private final List<Edge> all = new ArrayList<>();
    private final Set<String> names = new TreeSet<>();
    private int promise = TERMS;
    private int callOf = TERMS;
    private String words = "";

    List<Edge> all() {
        return all;
    }

    /** The cases that follow are of this promise. */
    void promise(int number) {
        promise = number;
        callOf = number;
        words = "";
    }

    /** The cases that follow are of 'Terms', and tried by a call of this promise. */
    void termsBy(int number) {
        promise = TERMS;
        callOf = number;
    }

    /** The cases that follow hold these words of the document. */
    void words(String text) {
        words = text;
    }

    /** A case that begins with a new object. */
    void edge(String what, Act act) {
        String full = promise == TERMS && callOf != TERMS ? "by promise " + callOf + ", " + what : what;
        Edge edge = new Edge(promise, words, full, act);
        if (!names.add(edge.name())) throw new IllegalStateException("two cases are called " + edge.name());
        all.add(edge);
    }

    /** On the laid table a call is refused, and changes nothing. */
    void refused(String what, int answer, Call call) {
        refusedBehind(what, x -> { }, answer, call);
    }

    /** The same, behind acts on the laid table that set the case up. */
    void refusedBehind(String what, Act ahead, long answer, Call call) {
        boolean cleared = NAME_FAULTS.contains(callOf);
        edge(what, x -> dueUnchanged(ahead, call, answer, Rows.ZERO, cleared ? 0 : Rows.ZERO));
    }

    /** On the laid table a call comes to a FAULT: it answers so, fault() tells it, and nothing changes. */
    void faulted(String what, int fault, Call call) {
        faultedBehind(what, x -> { }, fault, call);
    }

    void faultedBehind(String what, Act ahead, int fault, Call call) {
        long answer = ANSWER_LONGS.contains(callOf) ? 0 : -10 - fault;
        edge(what, x -> dueUnchanged(ahead, call, answer, fault == Rows.ZERO ? 0 : Rows.ZERO, fault));
    }

    private static void dueUnchanged(Act ahead, Call call, long answer, int faultAhead, int faultBehind) {
        ConvolutionBench x = Table.laid();
        ahead.on(x);
        // root() changes nothing but fault()
        Check.due("root, for its FAULT", x.root(0, faultAhead == 0 ? 1 : 3), faultAhead == 0 ? 1 : 0);
        Check.due("fault() ahead", x.fault(), faultAhead);
        Check.due("the call", call.on(x), answer);
        Check.due("fault() behind", x.fault(), faultBehind);
        ConvolutionBench untouched = Table.laid();
        ahead.on(untouched);
        List<String> want = Table.seen(untouched);
        List<String> got = Table.seen(x);
        for (int i = 0; i < want.size(); i++) {
            Check.holds("unchanged: " + want.get(i) + ", now: " + got.get(i), want.get(i).equals(got.get(i)));
        }
    }

    /** Runs each case, all of them even where one is broken, and ends with exit code 1 if one was. */
    void run(String test) {
        int broken = 0;
        for (Edge edge : all) {
            Check.about(edge.name());
            int before = Check.wrong();
            try {
                edge.act().on(new ConvolutionBench());
            } catch (RuntimeException thrown) {
                Check.holds("nothing is thrown, but " + thrown, false);
            }
            if (Check.wrong() != before) broken++;
        }
        Check.about("");
        System.out.println(test + ": " + all.size() + " boundary cases, " + broken + " broken");
        Check.finish(test);
    }
}
