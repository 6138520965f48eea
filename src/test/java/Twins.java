import java.util.function.Supplier;
import java.util.function.ToLongFunction;

/** Two objects brought to the same state: one has a call more, and all that can be asked is compared. */
final class Twins extends Runs {
    private static final int[] DIGITS = {0, 1, 2, 3, 4};
    private static final long[] DEEP = {0, 1, 2, 1L << 59, (1L << 60) - 2, (1L << 60) - 1};

    /** All answers of one object: as a text, without a call that could change it. */
    static String all(SplitClocks x) {
        StringBuilder s = new StringBuilder(counts(x));
        s.append(" fault ").append(x.fault()).append(" told ").append(x.place()).append('/').append(x.digits());
        s.append(" row ").append(row(x));
        for (int k = 0; k < Math.min(x.count(0), MOST_TRIES); k++) {
            s.append("\nstamp ").append(k).append(':');
            for (int what = 0; what <= 10; what++) {
                s.append(' ').append(x.stamp(k, what));
            }
            surface(x, k, s);
        }
        return s.toString();
    }

    private static void surface(SplitClocks x, int k, StringBuilder s) {
        for (int n : DIGITS) {
            for (long p = 0; p < 1L << n; p++) {
                s.append(' ').append(x.height(k, p, n)).append(x.owns(k, p, n) ? '+' : '-');
            }
        }
        for (long p : DEEP) {
            s.append(' ').append(x.height(k, p, 60)).append(x.owns(k, p, 60) ? '+' : '-');
        }
    }

    static String counts(SplitClocks x) {
        StringBuilder s = new StringBuilder("counts");
        for (int what = 0; what <= 6; what++) {
            s.append(' ').append(x.count(what));
        }
        return s.toString();
    }

    static void alike(String call, SplitClocks x, SplitClocks y) {
        yes(call + " changes nothing", all(x).equals(all(y)));
    }

    /** Undoes all acts of both, and goes back to the image of both: they are alike all the way. */
    static void alikeTillTheFirst(String call, SplitClocks x, SplitClocks y) {
        alike(call, x, y);
        boolean more = true;
        for (int k = 0; more && k < 1000; k++) {
            more = y.undo();
            due(call + ", then undo() the " + k + "th time", x.undo() ? 1 : 0, more ? 1 : 0);
            text(call + ", then undo() the " + k + "th time", counts(x), counts(y));
        }
        alike(call + ", then undo() of all", x, y);
        due(call + ", then back()", x.back() ? 1 : 0, y.back() ? 1 : 0);
        alike(call + ", then back()", x, y);
    }

    /** The call answers this, and the object is as if it had never been called. */
    static void refused(String call, Supplier<SplitClocks> state, ToLongFunction<SplitClocks> act, long answer) {
        SplitClocks x = state.get();
        SplitClocks y = state.get();
        due(call, act.applyAsLong(x), answer);
        alikeTillTheFirst(call, x, y);
    }
}
