import java.io.IOException;
import java.nio.file.Path;
import java.util.ArrayList;
import java.util.List;
import java.util.Set;
import java.util.TreeSet;

/**
 * Tests that stand for one sentence of the document each. A call is tried on a house that is made anew, and the
 * house is compared with a twin that has not had the call: so a test sees all that a call changes.
 */
final class Edge {
    interface Made {
        BracketHouse make();
    }

    interface Call {
        long on(BracketHouse x);
    }

    private interface Probe {
        void on(BracketHouse x, List<String> trace);
    }

    static final Call NOTHING_AT_ALL = x -> 0;
    static final Call TAPE_EMPTIED = x -> x.end(0);
    /** What is free of two calls that differ in the readers behind them. */
    static final String[] DRAWN = new String[22];

    static {
        for (int what = 0; what < DRAWN.length; what++) DRAWN[what] = "drawn(" + what + ")";
    }

    private static final int[] REFUSALS = {-1, -2, -3, -5, -6};

    private static Document document;
    private static final Set<Integer> promises = new TreeSet<>();
    private static int sentences = 0;
    private static String now = "";

    private Edge() { }

    static void open(Path path) throws IOException {
        document = new Document(path);
    }

    /** What is tested from here on is this sentence of this promise. */
    static void of(int promise, String sentence) {
        now = "promise " + promise + ", \"" + sentence + "\": ";
        promises.add(promise);
        sentences++;
        is("the document has this sentence", document.quotes(promise, sentence) ? 1 : 0, 1);
    }

    static void close() {
        now = "";
        for (int p = 1; p <= Document.PROMISES; p++) is("promise " + p + " is tested", promises.contains(p) ? 1 : 0, 1);
        for (String word : document.unquoted()) is("no test quotes " + word, 1, 0);
        System.out.println(sentences + " sentences");
    }

    static void is(String call, long got, long want) {
        Due.is(now + call, got, want);
    }

    static void rowIs(BracketHouse x, int... signs) {
        Due.rowIs(now, x, signs);
    }

    /** A call that is refused: its answer, what status() and count() say behind it, and that all else stays. */
    static void refused(Made made, String name, Call call, int by) {
        refused(made, name, call, by, NOTHING_AT_ALL);
    }

    /** As above, but for what it does all the same, which 'alike' does, too, and what is named as free. */
    static void refused(Made made, String name, Call call, int by, Call alike, String... free) {
        Made fine = () -> {
            BracketHouse x = made.make();
            x.force(x.count(10));
            return x;
        };
        BracketHouse x = fine.make();
        int[] before = refusals(x);
        is(name + ", status() ahead of it", x.status(), 0);
        is(name, call.on(x), by);
        is(name + ", then status()", x.status(), by);
        for (int i = 0; i < REFUSALS.length; i++) {
            is(name + ", then count(" + (5 + i) + ")", x.count(5 + i), before[i] + (REFUSALS[i] == by ? 1 : 0));
        }
        same(fine, name, call, alike, free);
    }

    /** A call that is not refused: its answer, what status() and count() say behind it. The house behind it. */
    static BracketHouse granted(Made made, String name, Call call, long want) {
        BracketHouse x = made.make();
        x.terms(-1, 0);
        int[] before = refusals(x);
        is(name, call.on(x), want);
        is(name + ", then status()", x.status(), 0);
        for (int i = 0; i < REFUSALS.length; i++) is(name + ", then count(" + (5 + i) + ")", x.count(5 + i), before[i]);
        return x;
    }

    /** A question: its answer, and that nothing changes by it, status() and count() not either. */
    static void asked(Made made, String name, Call call, long want) {
        Made spoilt = () -> {
            BracketHouse x = made.make();
            x.cut(-1);
            return x;
        };
        BracketHouse x = spoilt.make();
        int[] before = refusals(x);
        is(name, call.on(x), want);
        is(name + ", then status()", x.status(), -2);
        for (int i = 0; i < REFUSALS.length; i++) is(name + ", then count(" + (5 + i) + ")", x.count(5 + i), before[i]);
        same(spoilt, name, call, NOTHING_AT_ALL);
    }

    /** That two calls leave the same behind, but for status(), what count() says of refusals, and what is named as free. */
    static void same(Made made, String name, Call call, Call alike, String... free) {
        List<Probe> probes = new ArrayList<>(List.of(Edge::state, Edge::undoing, Edge::tapeAsRow, Edge::tapeAsLaw, Edge::tapeAsOrders));
        for (int k = 0; k < 2; k++) probes.add(imageProbe(k));
        for (int law = -1; law < 6; law++) probes.add(lawProbe(law));
        for (Probe probe : probes) {
            List<String> one = trace(made, call, probe, free);
            List<String> other = trace(made, alike, probe, free);
            for (int i = 0; i < Math.min(one.size(), other.size()); i++) {
                if (!one.get(i).equals(other.get(i))) {
                    is(name + ", then " + one.get(i) + " in place of " + other.get(i), 1, 0);
                    break;
                }
            }
            is(name + ", then as much as without it", one.size(), other.size());
        }
    }

    private static int[] refusals(BracketHouse x) {
        int[] n = new int[REFUSALS.length];
        for (int i = 0; i < n.length; i++) n[i] = x.count(5 + i);
        return n;
    }

    private static List<String> trace(Made made, Call call, Probe probe, String... free) {
        BracketHouse x = made.make();
        call.on(x);
        List<String> trace = new ArrayList<>();
        probe.on(x, trace);
        for (String name : free) trace.removeIf(line -> line.startsWith(name + " "));
        return trace;
    }

    private static void note(List<String> trace, String call, long got) {
        trace.add(call + " = " + got);
    }

    private static void state(BracketHouse x, List<String> trace) {
        for (int what : new int[] {0, 1, 2, 3, 4, 10, 11, 12, 13}) note(trace, "count(" + what + ")", x.count(what));
        note(trace, "blots()", x.blots());
        note(trace, "fault()", x.fault());
        note(trace, "stopped()", x.stopped());
        for (int what = 0; what < 22; what++) note(trace, "drawn(" + what + ")", x.drawn(what));
        for (int p = 0; p < x.count(0); p++) {
            for (int what = 0; what < 4; what++) note(trace, "at(" + p + ", " + what + ")", x.at(p, what));
        }
    }

    private static void signs(BracketHouse x, List<String> trace) {
        note(trace, "count(0)", x.count(0));
        for (int p = 0; p < 20; p++) note(trace, "at(" + p + ", 0)", x.at(p, 0));
    }

    private static void undoing(BracketHouse x, List<String> trace) {
        for (int i = 0; i < 17; i++) {
            note(trace, "undo()", x.undo());
            note(trace, "count(11)", x.count(11));
            if (i % 2 == 0) signs(x, trace);
        }
    }

    private static void tapeAsRow(BracketHouse x, List<String> trace) {
        // Room is made, as without it every byte would be a blot.
        for (int i = 0; i < 20; i++) x.cut(0);
        note(trace, "row()", x.row());
        note(trace, "blots()", x.blots());
        signs(x, trace);
    }

    private static void tapeAsLaw(BracketHouse x, List<String> trace) {
        note(trace, "law()", x.law());
        note(trace, "fault()", x.fault());
        lawProbe(x.count(2) - 1).on(x, trace);
    }

    private static void tapeAsOrders(BracketHouse x, List<String> trace) {
        note(trace, "orders()", x.orders());
        note(trace, "fault()", x.fault());
        note(trace, "stopped()", x.stopped());
        signs(x, trace);
    }

    private static Probe imageProbe(int k) {
        return (x, trace) -> {
            note(trace, "back(" + k + ")", x.back(k));
            state(x, trace);
            for (int law = 0; law < 6; law++) {
                note(trace, "force(" + law + ")", x.force(law));
                note(trace, "asks(0, 0, 0)", x.asks(0, 0, 0));
            }
        };
    }

    private static Probe lawProbe(int law) {
        return (x, trace) -> {
            note(trace, "force(" + law + ")", x.force(law));
            for (int sign = 0; sign < 12; sign++) {
                for (int what = 0; what < 4; what++) {
                    note(trace, "asks(" + sign + ", 0, " + what + ")", x.asks(sign, 0, what));
                    note(trace, "asks(" + sign + ", length, " + what + ")", x.asks(sign, x.count(0), what));
                }
            }
        };
    }
}
