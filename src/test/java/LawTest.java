import java.util.ArrayList;
import java.util.List;
import java.util.Random;

/**
 * What must hold in any run, whatever the stamps are: random runs with fixed seeds, and no second model.
 * Heights tell just what histories tell, the line is always owned once, and each act does at every point what
 * the terms say of it.
 */
public final class LawTest extends Runs {
    private static final int RUNS = 50;
    private static final int ACTS = 120;
    /** No share is parted more often, so that these places see all of each stamp. */
    private static final int DIGITS = 7;
    private static final int PLACES = 1 << DIGITS;

    private final Random random;
    private final SplitClocks x = new SplitClocks();

    private LawTest(int run) {
        random = new Random(run);
    }

    public static void main(String[] args) {
        int runs = args.length > 0 ? Integer.parseInt(args[0]) : RUNS;
        for (int run = 0; run < runs && CHECKS.isFine(); run++) {
            CHECKS.name("laws, run " + run);
            new LawTest(run).go();
        }
        CHECKS.name("laws");
        CHECKS.close();
    }

    private void go() {
        for (int k = 0; k < ACTS && CHECKS.isFine(); k++) {
            act();
            lineIsOwnedOnce();
        }
        for (int a = 0; a < x.count(0) && CHECKS.isFine(); a++) {
            for (int b = 0; b < x.count(0); b++) {
                heightsTellHistories(a, b);
                ownersMeet(a, b);
            }
            bitsTellAll(a);
        }
    }

    private int pick(int what, boolean owner) {
        List<Integer> all = new ArrayList<>();
        for (int s = 0; s < x.count(0); s++) {
            if (x.stamp(s, what) == 1 && (!owner || ownsAnything(s))) {
                all.add(s);
            }
        }
        return all.isEmpty() ? NONE : all.get(random.nextInt(all.size()));
    }

    private boolean ownsAnything(int s) {
        return x.meets(s, s);
    }

    private int owner() {
        return pick(0, true);
    }

    private int living() {
        return pick(0, random.nextInt(3) > 0);
    }

    private void act() {
        switch (random.nextInt(13)) {
            case 0, 1 -> forked(owner());
            case 2, 3, 4 -> grown(x.event(owner()));
            case 5 -> melted(x.join(living(), living()));
            case 6 -> copied(x.peek(living()));
            case 7 -> sent(x.send(owner()));
            case 8, 9 -> taken(x.take(living(), living()));
            case 10 -> x.lose(random.nextInt(4) == 0 ? owner() : NONE);
            case 11 -> melted(x.home(living(), pick(9, true)));
            default -> undone();
        }
    }

    private int[] heights(int s) {
        int[] all = new int[PLACES];
        for (int p = 0; p < PLACES; p++) {
            all[p] = x.height(s, p, DIGITS);
        }
        return all;
    }

    private boolean[] shares(int s) {
        boolean[] all = new boolean[PLACES];
        for (int p = 0; p < PLACES; p++) {
            all[p] = x.owns(s, p, DIGITS);
        }
        return all;
    }

    private void forked(int s) {
        if (s == NONE || x.stamp(s, 1) == 1 + 2 * DIGITS) {
            return;
        }
        int left = x.fork(s);
        yes("a stamp that lives and owns can be forked", left != NONE);
        boolean[] old = shares(s);
        boolean[] one = shares(left);
        boolean[] other = shares(left + 1);
        int firstOfOther = PLACES;
        int lastOfOne = -1;
        for (int p = 0; p < PLACES; p++) {
            yes("each point goes to one of both", old[p] == (one[p] != other[p]) && !(one[p] && other[p]));
            lastOfOne = one[p] ? p : lastOfOne;
            firstOfOther = other[p] ? Math.min(p, firstOfOther) : firstOfOther;
        }
        yes("each has something, the left one what is left", lastOfOne >= 0 && lastOfOne < firstOfOther && firstOfOther < PLACES);
        due("the left one's KNOWN", x.relation(s, left), 0);
        due("the right one's KNOWN", x.relation(s, left + 1), 0);
    }

    /** An event raises the height where it is owned, somewhere, and nowhere else. */
    private void grown(int s) {
        if (s == NONE) {
            return;
        }
        int old = x.stamp(s, 4);
        int[] now = heights(s);
        int[] then = heights(old);
        boolean[] own = shares(s);
        boolean[] ownThen = shares(old);
        int raised = 0;
        for (int p = 0; p < PLACES; p++) {
            yes("the same OWN", own[p] == ownThen[p]);
            yes("not lower, and not higher where it is another's", now[p] >= then[p] && (own[p] || now[p] == then[p]));
            raised += now[p] > then[p] ? 1 : 0;
        }
        yes("raised somewhere", raised > 0);
        due("how", x.stamp(s, 3), 2);
        due("one event more", x.stamp(s, 10), x.stamp(old, 10) + 1);
        due("which is that", x.unseen(s, old), 1);
    }

    private void melted(int s) {
        if (s == NONE) {
            return;
        }
        int a = x.stamp(s, 4);
        int b = x.stamp(s, 5);
        int[] now = heights(s);
        int[] one = heights(a);
        int[] other = heights(b);
        boolean[] own = shares(s);
        boolean[] ownOne = shares(a);
        boolean[] ownOther = shares(b);
        for (int p = 0; p < PLACES; p++) {
            due("the greater height", now[p], Math.max(one[p], other[p]));
            yes("the shares together", own[p] == (ownOne[p] || ownOther[p]));
        }
        due("histories together", x.stamp(s, 10), x.stamp(a, 10) + x.unseen(b, a));
    }

    private void copied(int s) {
        if (s == NONE) {
            return;
        }
        no("a peeked one owns nothing", ownsAnything(s));
        due("it knows the same", x.relation(s, x.stamp(s, 4)), 0);
        due("it has seen the same", x.stamp(s, 10), x.stamp(x.stamp(s, 4), 10));
        due("the old one lives on", x.stamp(x.stamp(s, 4), 0), 1);
    }

    private void sent(int s) {
        if (s != NONE) {
            grown(s);
            copied(s + 1);
            due("the peeked one is of the event", x.stamp(s + 1, 4), s);
        }
    }

    private void taken(int s) {
        if (s != NONE) {
            due("the event is of the join", x.stamp(s, 4), s - 1);
            melted(s - 1);
            grown(s);
        }
    }

    private void undone() {
        String before = Twins.all(x);
        int s = owner();
        if (x.event(s) != NONE) {
            yes("undo()", x.undo());
            yes("an event undone leaves all as it was", before.equals(Twins.all(x)));
        }
        if (random.nextInt(4) == 0) {
            x.undo();
        }
    }

    /** What lives or is lost has the whole line, and no point of it twice. */
    private void lineIsOwnedOnce() {
        int[] owners = new int[PLACES];
        for (int s = 0; s < x.count(0); s++) {
            if (x.stamp(s, 0) == 1 || x.stamp(s, 9) == 1) {
                boolean[] own = shares(s);
                for (int p = 0; p < PLACES; p++) {
                    owners[p] += own[p] ? 1 : 0;
                }
            }
        }
        for (int p = 0; p < PLACES; p++) {
            due("owners of place " + p, owners[p], 1);
        }
    }

    /** Nothing was read, so a leads to b just where b has seen all that a has. */
    private void heightsTellHistories(int a, int b) {
        boolean there = x.unseen(a, b) == 0;
        boolean again = x.unseen(b, a) == 0;
        int relation = there && again ? 0 : there ? 1 : again ? 2 : 3;
        due("relation(" + a + ", " + b + ") as of their histories", x.relation(a, b), relation);
        long place = x.place();
        int digits = x.digits();
        due("witness(" + a + ", " + b + ", 0)", x.witness(a, b, 0) ? 1 : 0, relation == 3 ? 1 : 0);
        if (relation == 3) {
            place = x.place();
            digits = x.digits();
            firstAndWidest(a, b, place, digits);
            yes("witness the other way", x.witness(a, b, 1));
            firstAndWidest(b, a, x.place(), x.digits());
            due("both are good", x.check(a, b, place, digits, x.place(), x.digits()), 0);
        } else {
            isTold(x, place, digits);
        }
    }

    /** Above all over, nowhere above on its left, and not all over what it is a half of. */
    private void firstAndWidest(int above, int below, long place, int digits) {
        int[] high = heights(above);
        int[] low = heights(below);
        int width = PLACES >> digits;
        int from = (int) place * width;
        for (int p = 0; p < from + width; p++) {
            yes("above there alone: " + p, high[p] > low[p] == p >= from);
        }
        int wider = (int) (place >> 1) * 2 * width;
        boolean all = true;
        for (int p = wider; p < wider + 2 * width; p++) {
            all = all && high[p] > low[p];
        }
        no("a shorter one would do", all);
    }

    private void ownersMeet(int a, int b) {
        boolean[] one = shares(a);
        boolean[] other = shares(b);
        boolean together = false;
        for (int p = 0; p < PLACES; p++) {
            together = together || one[p] && other[p];
        }
        due("meets(" + a + ", " + b + ")", x.meets(a, b) ? 1 : 0, together ? 1 : 0);
    }

    /** Read by another object, the bits tell the same height at each point, in as many nodes. */
    private void bitsTellAll(int s) {
        SplitClocks y = new SplitClocks();
        due("read()", readOf(y, packed(x, s)), 1);
        due("nodes", y.stamp(1, 2), x.stamp(s, 2));
        int least = Integer.MAX_VALUE;
        int greatest = 0;
        int[] now = heights(s);
        for (int p = 0; p < PLACES; p++) {
            due("height of what was read at " + p, heightOrThrown(y, 1, p, DIGITS), now[p]);
            least = Math.min(least, now[p]);
            greatest = Math.max(greatest, now[p]);
        }
        due("LEAST", x.stamp(s, 7), least);
        due("GREATEST", x.stamp(s, 8), greatest);
        due("NODES of its KNOWN", x.stamp(s, 2), fewest(now, 0, PLACES));
    }

    /** Nodes of the form of fewest nodes: a half that is the same all over is one. */
    private static int fewest(int[] all, int from, int to) {
        boolean flat = true;
        for (int p = from; p < to; p++) {
            flat = flat && all[p] == all[from];
        }
        int mid = (from + to) / 2;
        return flat ? 1 : 1 + fewest(all, from, mid) + fewest(all, mid, to);
    }
}
