import java.util.Arrays;
import java.util.NoSuchElementException;

/**
 * Split clocks: stamps of a share of the line and a height over it, with no list of all parties.
 *
 * A share is held as a height of 0 and 1: so both live in one store, fold by one rule, and the
 * shares of two stamps come together as their heights do, by the greater one at each point.
 */
public final class SplitClocks {
    public static final int NONE = -1;

    private static final int MOST_STAMPS = 1000;
    private static final int MOST_NODES = 20000;
    private static final int MOST_DIGITS = 60;
    private static final int MOST_BITS = 600;
    private static final int MOST_ADDED = 64;

    private static final int BY_SEED = 0;
    private static final int BY_FORK = 1;
    private static final int BY_EVENT = 2;
    private static final int BY_JOIN = 3;
    private static final int BY_PEEK = 4;
    private static final int BY_HOME = 5;
    private static final int BY_READ = 6;

    private static final int SPENT = 0;
    private static final int LIVING = 1;
    private static final int LOST = 2;

    private static final int LIKE = 0;
    private static final int FIRST_LEADS = 1;
    private static final int SECOND_LEADS = 2;
    private static final int BESIDE = 3;

    private final Book book;
    private final Book kept;
    private final Acts acts;
    private final Past past;
    private final Bits row;
    private final Bits draft;
    private final Reader reader;
    private boolean imageStands;
    private int lastFault;
    private long toldPlace;
    private int toldDigits;

    public SplitClocks() {
        book = new Book();
        kept = new Book();
        acts = new Acts();
        past = new Past();
        row = new Bits();
        draft = new Bits();
        reader = new Reader(row);
        imageStands = false;
        plant();
    }

    public void seed() {
        plant();
    }

    public int fork(int s) {
        if (!book.isOwner(s) || !Growth.canPart(book.trees, book.ownOf(s))) {
            return NONE;
        }
        int before = book.size();
        int share = book.ownOf(s);
        int known = book.knownOf(s);
        int left = book.make(Growth.part(book.trees, share, false), known, BY_FORK, s, NONE);
        if (left != NONE) {
            book.make(Growth.part(book.trees, share, true), known, BY_FORK, s, NONE);
        }
        return settle(before, 2, s, NONE) ? left : NONE;
    }

    public int event(int s) {
        if (!book.isOwner(s)) {
            return NONE;
        }
        int before = book.size();
        int made = makeEvent(s);
        return settle(before, 1, s, NONE) ? made : NONE;
    }

    public int join(int a, int b) {
        if (!canMelt(a, b)) {
            return NONE;
        }
        int before = book.size();
        int made = makeJoin(a, b, BY_JOIN);
        return settle(before, 1, a, b) ? made : NONE;
    }

    public int peek(int s) {
        if (!book.isLiving(s)) {
            return NONE;
        }
        int before = book.size();
        int made = makePeek(s);
        return settle(before, 1, NONE, NONE) ? made : NONE;
    }

    public int send(int s) {
        if (!book.isOwner(s)) {
            return NONE;
        }
        int before = book.size();
        int made = makeEvent(s);
        if (made != NONE) {
            makePeek(made);
        }
        return settle(before, 2, s, NONE) ? made : NONE;
    }

    public int take(int a, int b) {
        if (!canMelt(a, b) || !(book.isOwner(a) || book.isOwner(b))) {
            return NONE;
        }
        int before = book.size();
        int melted = makeJoin(a, b, BY_JOIN);
        int made = melted == NONE ? NONE : makeEvent(melted);
        if (!settle(before, 2, a, b)) {
            return NONE;
        }
        book.spend(melted);
        return made;
    }

    public boolean lose(int s) {
        if (!book.isOwner(s)) {
            return false;
        }
        acts.note(book, book.size(), s, NONE);
        book.setState(s, LOST);
        return true;
    }

    public int home(int s, int t) {
        if (!book.isLiving(s) || !book.isLost(t) || !leads(t, s)) {
            return NONE;
        }
        int before = book.size();
        int made = makeJoin(s, t, BY_HOME);
        return settle(before, 1, s, t) ? made : NONE;
    }

    public boolean undo() {
        return acts.takeBack(book);
    }

    public int relation(int a, int b) {
        if (!book.has(a) || !book.has(b)) {
            return NONE;
        }
        boolean there = leads(a, b);
        boolean again = leads(b, a);
        if (there && again) {
            return LIKE;
        }
        if (there) {
            return FIRST_LEADS;
        }
        return again ? SECOND_LEADS : BESIDE;
    }

    public int unseen(int a, int b) {
        return book.has(a) && book.has(b) ? past.missing(book, a, b) : NONE;
    }

    public boolean meets(int a, int b) {
        return book.has(a) && book.has(b) && Sight.overlap(book.trees, book.ownOf(a), book.ownOf(b));
    }

    public int height(int s, long place, int n) throws NoSuchElementException {
        if (!book.has(s) || !isPlace(place, n)) {
            throw new NoSuchElementException("no such stamp, or no such place");
        }
        return book.trees.numberAt(book.knownOf(s), place, n);
    }

    public boolean owns(int s, long place, int n) throws NoSuchElementException {
        if (!book.has(s) || !isPlace(place, n)) {
            throw new NoSuchElementException("no such stamp, or no such place");
        }
        return book.trees.numberAt(book.ownOf(s), place, n) == 1;
    }

    public int stamp(int s, int what) {
        if (!book.has(s)) {
            return NONE;
        }
        switch (what) {
            case 0: return book.isLiving(s) ? 1 : 0;
            case 1: return book.trees.nodesOf(book.ownOf(s));
            case 2: return book.trees.nodesOf(book.knownOf(s));
            case 3: return book.howOf(s);
            case 4: return book.firstOf(s);
            case 5: return book.secondOf(s);
            case 6: return draftOf(s);
            case 7: return book.trees.numberOf(book.knownOf(s));
            case 8: return book.trees.greatestOf(book.knownOf(s));
            case 9: return book.isLost(s) ? 1 : 0;
            case 10: return past.seen(book, s);
            default: return NONE;
        }
    }

    public boolean witness(int a, int b, int which) {
        if (relation(a, b) != BESIDE || which < 0 || which > 1) {
            return false;
        }
        int over = book.knownOf(which == 0 ? a : b);
        int under = book.knownOf(which == 0 ? b : a);
        long marked = Sight.firstAbove(book.trees, over, under);
        toldDigits = 0;
        while (toldDigits < MOST_DIGITS && marked >> toldDigits > 1) {
            toldDigits++;
        }
        toldPlace = marked - (1L << toldDigits);
        return true;
    }

    public long place() {
        return toldPlace;
    }

    public int digits() {
        return toldDigits;
    }

    public int check(int a, int b, long first, int n, long second, int m) {
        if (!book.has(a) || !book.has(b) || !isPlace(first, n) || !isPlace(second, m)) {
            return NONE;
        }
        if (!isAboveAt(a, b, first, n)) {
            return 1;
        }
        return isAboveAt(b, a, second, m) ? 0 : 2;
    }

    public int pack(int s) {
        if (!book.has(s) || draftOf(s) > MOST_BITS) {
            return NONE;
        }
        row.copyFrom(draft);
        return row.size();
    }

    public int bit(int i) {
        return row.bitAt(i);
    }

    public int add(long v, int n) {
        if (n < 0 || n > MOST_ADDED || row.size() + n > MOST_BITS) {
            return NONE;
        }
        row.push(v, n);
        return row.size();
    }

    public boolean end(int n) {
        return row.cut(n);
    }

    public int read() {
        int before = book.size();
        int known = reader.scan(book.trees);
        lastFault = reader.firstFault();
        if (lastFault == NONE) {
            book.make(Trees.ZERO, known, BY_READ, NONE, NONE);
        }
        return settle(before, 1, NONE, NONE) ? before : NONE;
    }

    public int fault() {
        return lastFault;
    }

    public boolean image() {
        kept.copyFrom(book);
        imageStands = true;
        return true;
    }

    public boolean back() {
        if (!imageStands) {
            return false;
        }
        book.copyFrom(kept);
        acts.clear();
        return true;
    }

    public int count(int what) {
        switch (what) {
            case 0: return book.size();
            case 1: return book.owners();
            case 2: return book.lostOnes();
            case 3: return book.events();
            case 4: return book.nodes();
            case 5: return row.size();
            case 6: return acts.size();
            default: return NONE;
        }
    }

    /** A new object and a seeded one are alike but for the image, which is not touched here. */
    private void plant() {
        book.clear();
        acts.clear();
        row.cut(0);
        lastFault = NONE;
        toldPlace = 0;
        toldDigits = NONE;
    }

    /** An act stands only if all its stamps were made: a part of one leaves no trace. */
    private boolean settle(int before, int wanted, int a, int b) {
        if (book.size() != before + wanted) {
            book.cut(before);
            return false;
        }
        acts.note(book, before, a, b);
        book.spend(a);
        book.spend(b);
        return true;
    }

    private boolean canMelt(int a, int b) {
        return a != b && book.isLiving(a) && book.isLiving(b);
    }

    private boolean leads(int a, int b) {
        return !Sight.above(book.trees, book.knownOf(a), book.knownOf(b));
    }

    private int makeEvent(int s) {
        int share = book.ownOf(s);
        int known = Growth.after(book.trees, share, book.knownOf(s));
        return book.make(share, known, BY_EVENT, s, NONE);
    }

    private int makeJoin(int a, int b, int how) {
        int share = Growth.higher(book.trees, book.ownOf(a), book.ownOf(b));
        int known = Growth.higher(book.trees, book.knownOf(a), book.knownOf(b));
        return book.make(share, known, how, a, b);
    }

    private int makePeek(int s) {
        return book.make(Trees.ZERO, book.knownOf(s), BY_PEEK, s, NONE);
    }

    private boolean isAboveAt(int a, int b, long where, int n) {
        return book.trees.numberAt(book.knownOf(a), where, n) > book.trees.numberAt(book.knownOf(b), where, n);
    }

    private int draftOf(int s) {
        draft.cut(0);
        Writer.shareFrom(book.trees, book.ownOf(s), draft, 0);
        Writer.heightFrom(book.trees, book.knownOf(s), draft, 0);
        return draft.size();
    }

    private static boolean isPlace(long where, int n) {
        return n >= 0 && n <= MOST_DIGITS && where >= 0 && where < (1L << n);
    }

    /** Numbers in a row that widens as it is written, up to a bound; outside it all is 0 and nothing is written. */
    private static final class Numbers {
        private static final int SHORTEST = 32;
        private final int most;
        private int[] cells;

        Numbers(int most) {
            this.most = Math.max(most, SHORTEST);
            cells = new int[SHORTEST];
        }

        int at(int i) {
            return i >= 0 && i < cells.length ? cells[i] : 0;
        }

        void put(int i, int value) {
            if (i >= cells.length && i < most) {
                widen(i + 1);
            }
            if (i >= 0 && i < cells.length) {
                cells[i] = value;
            }
        }

        void copyFrom(Numbers from, int n) {
            int length = Math.min(Math.min(n, from.cells.length), most);
            if (length > cells.length) {
                widen(length);
            }
            if (length > 0 && length <= cells.length) {
                System.arraycopy(from.cells, 0, cells, 0, length);
            }
        }

        private void widen(int wanted) {
            int length = Math.min(most, Math.max(wanted, 2 * cells.length));
            if (length > cells.length) {
                cells = Arrays.copyOf(cells, length);
            }
        }
    }

    /**
     * Shares and heights, node behind node: a node's left side is right behind it, the right one where
     * far tells; far is 0 for a number. A tree is never changed once a stamp has it.
     */
    private static final class Trees {
        static final int ZERO = 0;
        static final int ONE = 1;
        /** Behind all nodes that are kept, one act's trees need as many again before they are folded. */
        private static final int MOST_PLACES = 2 * MOST_NODES + 1000;
        private final Numbers number = new Numbers(MOST_PLACES);
        private final Numbers far = new Numbers(MOST_PLACES);
        private int top;

        void clear() {
            top = 0;
            grow(0);
            grow(1);
        }

        int top() {
            return top;
        }

        void cut(int to) {
            top = to;
        }

        int numberOf(int e) {
            return number.at(e);
        }

        void setNumber(int e, int n) {
            number.put(e, n);
        }

        boolean isNumber(int e) {
            return far.at(e) == 0;
        }

        boolean isJust(int e, int n) {
            return isNumber(e) && numberOf(e) == n;
        }

        /** A number n has, as (n 0 0), two sides of 0. */
        int leftOf(int e) {
            return far.at(e) == 0 ? ZERO : e + 1;
        }

        int rightOf(int e) {
            return far.at(e) == 0 ? ZERO : far.at(e);
        }

        /** A number behind all nodes; it gets sides by what is built behind it, turn() and close(). */
        int grow(int n) {
            number.put(top, n);
            far.put(top, 0);
            top++;
            return top - 1;
        }

        void turn(int parent) {
            far.put(parent, top);
        }

        /** Folds the last node that was built; its sides are folded. */
        void close(int parent) {
            int l = leftOf(parent);
            int r = rightOf(parent);
            int least = Math.min(numberOf(l), numberOf(r));
            number.put(parent, numberOf(parent) + least);
            number.put(l, numberOf(l) - least);
            number.put(r, numberOf(r) - least);
            if (isJust(l, 0) && isJust(r, 0)) {
                far.put(parent, 0);
                top = parent + 1;
            }
        }

        int nodesOf(int e) {
            int wanted = 1;
            int i = e;
            while (wanted > 0 && i < top) {
                wanted += isNumber(i) ? -1 : 1;
                i++;
            }
            return i - e;
        }

        void copy(int e) {
            int shift = top - e;
            int n = nodesOf(e);
            for (int i = e; i < e + n; i++) {
                number.put(i + shift, numberOf(i));
                far.put(i + shift, isNumber(i) ? 0 : far.at(i) + shift);
            }
            top += n;
        }

        boolean same(int a, int b) {
            int n = nodesOf(a);
            boolean alike = n == nodesOf(b);
            for (int k = 0; alike && k < n; k++) {
                alike = numberOf(a + k) == numberOf(b + k) && isNumber(a + k) == isNumber(b + k);
            }
            return alike;
        }

        int numberAt(int e, long where, int n) {
            int node = e;
            int sum = numberOf(node);
            for (int k = n - 1; k >= n - MOST_DIGITS && !isNumber(node); k--) {
                boolean right = k >= 0 && (where >> k & 1) == 1;
                node = right ? rightOf(node) : leftOf(node);
                sum += numberOf(node);
            }
            return sum;
        }

        int greatestOf(int e) {
            return greatest(this, e, 0);
        }

        private static int greatest(Trees t, int e, int depth) {
            if (t.isNumber(e) || depth >= MOST_DIGITS) {
                return t.numberOf(e);
            }
            int l = greatest(t, t.leftOf(e), depth + 1);
            int r = greatest(t, t.rightOf(e), depth + 1);
            return t.numberOf(e) + Math.max(l, r);
        }

        void copyFrom(Trees from) {
            top = from.top;
            number.copyFrom(from.number, top);
            far.copyFrom(from.far, top);
        }
    }

    /** What is made of trees: each method builds behind all nodes and tells where. */
    private static final class Growth {
        /** Above the cost of any way down. */
        private static final int NO_WAY = 1000000;
        private static final int COST_OF_SIDES = 1000;

        /** Whether the halves of a share would still lie at places. */
        static boolean canPart(Trees t, int share) {
            int node = share;
            int depth = 0;
            while (depth < MOST_DIGITS && hasOneSide(t, node)) {
                node = t.isJust(t.leftOf(node), 0) ? t.rightOf(node) : t.leftOf(node);
                depth++;
            }
            return depth < MOST_DIGITS;
        }

        private static boolean hasOneSide(Trees t, int share) {
            return !t.isNumber(share) && (t.isJust(t.leftOf(share), 0) || t.isJust(t.rightOf(share), 0));
        }

        static int part(Trees t, int share, boolean right) {
            int start = t.top();
            partFrom(t, share, right, 0);
            return start;
        }

        private static void partFrom(Trees t, int share, boolean right, int depth) {
            int l = t.leftOf(share);
            int r = t.rightOf(share);
            int parent = t.grow(0);
            if (t.isNumber(share) || depth >= MOST_DIGITS) {
                t.grow(right ? 0 : 1);
                t.turn(parent);
                t.grow(right ? 1 : 0);
            } else if (t.isJust(l, 0)) {
                t.grow(0);
                t.turn(parent);
                partFrom(t, r, right, depth + 1);
            } else if (t.isJust(r, 0)) {
                partFrom(t, l, right, depth + 1);
                t.turn(parent);
                t.grow(0);
            } else {
                t.copy(right ? Trees.ZERO : l);
                t.turn(parent);
                t.copy(right ? r : Trees.ZERO);
            }
        }

        static int higher(Trees t, int a, int b) {
            int start = t.top();
            higherFrom(t, a, 0, b, 0, 0);
            return start;
        }

        private static void higherFrom(Trees t, int a, int underA, int b, int underB, int depth) {
            int highA = underA + t.numberOf(a);
            int highB = underB + t.numberOf(b);
            if (t.isNumber(a) && t.isNumber(b) || depth >= MOST_DIGITS) {
                t.grow(Math.max(highA, highB));
                return;
            }
            int parent = t.grow(0);
            higherFrom(t, t.leftOf(a), highA, t.leftOf(b), highB, depth + 1);
            t.turn(parent);
            higherFrom(t, t.rightOf(a), highA, t.rightOf(b), highB, depth + 1);
            t.close(parent);
        }

        static int after(Trees t, int share, int known) {
            int start = t.top();
            fillFrom(t, share, known, 0);
            if (t.same(start, known)) {
                t.cut(start);
                growFrom(t, share, known, 0);
            }
            return start;
        }

        private static void fillFrom(Trees t, int share, int e, int depth) {
            if (t.isJust(share, 1)) {
                t.grow(t.greatestOf(e));
                return;
            }
            if (t.isNumber(share) || t.isNumber(e) || depth >= MOST_DIGITS) {
                t.copy(e);
                return;
            }
            int parent = t.grow(t.numberOf(e));
            int l = t.top();
            if (t.isJust(t.leftOf(share), 1)) {
                t.grow(t.greatestOf(t.leftOf(e)));
            } else {
                fillFrom(t, t.leftOf(share), t.leftOf(e), depth + 1);
            }
            t.turn(parent);
            int r = t.top();
            if (t.isJust(t.rightOf(share), 1)) {
                t.grow(Math.max(t.greatestOf(t.rightOf(e)), t.numberOf(l)));
            } else {
                fillFrom(t, t.rightOf(share), t.rightOf(e), depth + 1);
            }
            if (t.isJust(t.leftOf(share), 1)) {
                t.setNumber(l, Math.max(t.numberOf(l), t.numberOf(r)));
            }
            t.close(parent);
        }

        private static void growFrom(Trees t, int share, int e, int depth) {
            if (t.isNumber(share) || depth >= MOST_DIGITS) {
                t.grow(t.numberOf(e) + 1);
                return;
            }
            int costLeft = cost(t, t.leftOf(share), t.leftOf(e), depth + 1);
            int costRight = cost(t, t.rightOf(share), t.rightOf(e), depth + 1);
            int parent = t.grow(t.numberOf(e));
            if (costLeft < costRight) {
                growFrom(t, t.leftOf(share), t.leftOf(e), depth + 1);
                t.turn(parent);
                t.copy(t.rightOf(e));
            } else {
                t.copy(t.leftOf(e));
                t.turn(parent);
                growFrom(t, t.rightOf(share), t.rightOf(e), depth + 1);
            }
            t.close(parent);
        }

        private static int cost(Trees t, int share, int e, int depth) {
            if (t.isNumber(share) || depth >= MOST_DIGITS) {
                return t.numberOf(share) == 1 ? 0 : NO_WAY;
            }
            int costLeft = cost(t, t.leftOf(share), t.leftOf(e), depth + 1);
            int costRight = cost(t, t.rightOf(share), t.rightOf(e), depth + 1);
            return 1 + (t.isNumber(e) ? COST_OF_SIDES : 0) + Math.min(costLeft, costRight);
        }
    }

    /** What two trees show when they are held side by side. */
    private static final class Sight {
        private static final long NOWHERE = 0;
        private static final long ALL_OVER = -1;

        /** Whether a is above b at some point. */
        static boolean above(Trees t, int a, int b) {
            return aboveFrom(t, a, b, 0, 0);
        }

        /** As above(), with a lifted by lead. */
        private static boolean aboveFrom(Trees t, int a, int b, int lead, int depth) {
            int now = lead + t.numberOf(a) - t.numberOf(b);
            if (t.isNumber(a) && t.isNumber(b) || depth >= MOST_DIGITS) {
                return now > 0;
            }
            return aboveFrom(t, t.leftOf(a), t.leftOf(b), now, depth + 1)
                || aboveFrom(t, t.rightOf(a), t.rightOf(b), now, depth + 1);
        }

        /** The first place where a is above b all over, with a digit 1 ahead of its digits; or ALL_OVER, NOWHERE. */
        static long firstAbove(Trees t, int a, int b) {
            return seek(t, a, b, 0, 1, 0);
        }

        private static long seek(Trees t, int a, int b, int lead, long marked, int depth) {
            int now = lead + t.numberOf(a) - t.numberOf(b);
            if (t.isNumber(a) && t.isNumber(b) || depth >= MOST_DIGITS) {
                return now > 0 ? ALL_OVER : NOWHERE;
            }
            long left = seek(t, t.leftOf(a), t.leftOf(b), now, 2 * marked, depth + 1);
            if (left != ALL_OVER && left != NOWHERE) {
                return left;
            }
            long right = seek(t, t.rightOf(a), t.rightOf(b), now, 2 * marked + 1, depth + 1);
            if (left == ALL_OVER) {
                return right == ALL_OVER ? ALL_OVER : 2 * marked;
            }
            return right == ALL_OVER ? 2 * marked + 1 : right;
        }

        static boolean overlap(Trees t, int a, int b) {
            return overlapFrom(t, a, b, 0);
        }

        private static boolean overlapFrom(Trees t, int a, int b, int depth) {
            if (t.isJust(a, 0) || t.isJust(b, 0)) {
                return false;
            }
            if (t.isNumber(a) || t.isNumber(b) || depth >= MOST_DIGITS) {
                return true;
            }
            return overlapFrom(t, t.leftOf(a), t.leftOf(b), depth + 1)
                || overlapFrom(t, t.rightOf(a), t.rightOf(b), depth + 1);
        }
    }

    /** All stamps that were made, each with how many nodes and places there were behind it: so cut() needs no search. */
    private static final class Book {
        final Trees trees = new Trees();
        private final Numbers own = new Numbers(MOST_STAMPS);
        private final Numbers known = new Numbers(MOST_STAMPS);
        private final Numbers how = new Numbers(MOST_STAMPS);
        private final Numbers first = new Numbers(MOST_STAMPS);
        private final Numbers second = new Numbers(MOST_STAMPS);
        private final Numbers state = new Numbers(MOST_STAMPS);
        private final Numbers nodesTill = new Numbers(MOST_STAMPS);
        private final Numbers topTill = new Numbers(MOST_STAMPS);
        private int size;

        void clear() {
            size = 0;
            trees.clear();
            make(Trees.ONE, Trees.ZERO, BY_SEED, NONE, NONE);
        }

        int size() {
            return size;
        }

        int nodes() {
            return nodesTill.at(size - 1);
        }

        /** The new stamp's number; NONE if all is full. */
        int make(int share, int height, int way, int a, int b) {
            int nodes = nodes() + trees.nodesOf(share) + trees.nodesOf(height);
            if (size >= MOST_STAMPS || nodes > MOST_NODES) {
                return NONE;
            }
            own.put(size, share);
            known.put(size, height);
            how.put(size, way);
            first.put(size, a);
            second.put(size, b);
            state.put(size, LIVING);
            nodesTill.put(size, nodes);
            topTill.put(size, trees.top());
            size++;
            return size - 1;
        }

        void cut(int to) {
            size = to;
            trees.cut(topTill.at(to - 1));
        }

        boolean has(int s) {
            return s >= 0 && s < size;
        }

        int ownOf(int s) {
            return own.at(s);
        }

        int knownOf(int s) {
            return known.at(s);
        }

        int howOf(int s) {
            return how.at(s);
        }

        int firstOf(int s) {
            return first.at(s);
        }

        int secondOf(int s) {
            return second.at(s);
        }

        int stateOf(int s) {
            return state.at(s);
        }

        void setState(int s, int now) {
            state.put(s, now);
        }

        boolean ownsNothing(int s) {
            return trees.isJust(ownOf(s), 0);
        }

        boolean isLiving(int s) {
            return has(s) && stateOf(s) == LIVING;
        }

        boolean isOwner(int s) {
            return isLiving(s) && !ownsNothing(s);
        }

        boolean isLost(int s) {
            return has(s) && stateOf(s) == LOST;
        }

        void spend(int s) {
            if (has(s) && !ownsNothing(s)) {
                setState(s, SPENT);
            }
        }

        int owners() {
            int n = 0;
            for (int s = 0; s < size; s++) {
                n += isOwner(s) ? 1 : 0;
            }
            return n;
        }

        int lostOnes() {
            int n = 0;
            for (int s = 0; s < size; s++) {
                n += isLost(s) ? 1 : 0;
            }
            return n;
        }

        int events() {
            int n = 0;
            for (int s = 0; s < size; s++) {
                n += howOf(s) == BY_EVENT ? 1 : 0;
            }
            return n;
        }

        void copyFrom(Book from) {
            size = from.size;
            trees.copyFrom(from.trees);
            own.copyFrom(from.own, size);
            known.copyFrom(from.known, size);
            how.copyFrom(from.how, size);
            first.copyFrom(from.first, size);
            second.copyFrom(from.second, size);
            state.copyFrom(from.state, size);
            nodesTill.copyFrom(from.nodesTill, size);
            topTill.copyFrom(from.topTill, size);
        }
    }

    /** The acts that can be undone: how many stamps there were, and what the at most two stamps were that it changed. */
    private static final class Acts {
        /** Each act makes a stamp or loses one. */
        private static final int MOST_ACTS = 2 * MOST_STAMPS;
        private final Numbers stamps = new Numbers(MOST_ACTS);
        private final Numbers one = new Numbers(MOST_ACTS);
        private final Numbers stateOfOne = new Numbers(MOST_ACTS);
        private final Numbers other = new Numbers(MOST_ACTS);
        private final Numbers stateOfOther = new Numbers(MOST_ACTS);
        private int size;

        void clear() {
            size = 0;
        }

        int size() {
            return size;
        }

        void note(Book book, int before, int a, int b) {
            stamps.put(size, before);
            one.put(size, a);
            stateOfOne.put(size, book.stateOf(a));
            other.put(size, b);
            stateOfOther.put(size, book.stateOf(b));
            size++;
        }

        boolean takeBack(Book book) {
            if (size == 0) {
                return false;
            }
            size--;
            book.cut(stamps.at(size));
            book.setState(one.at(size), stateOfOne.at(size));
            book.setState(other.at(size), stateOfOther.at(size));
            return true;
        }
    }

    /** Histories, followed back from a stamp to those that it was made of, whose numbers are lower. */
    private static final class Past {
        private final Numbers mine = new Numbers(MOST_STAMPS);
        private final Numbers others = new Numbers(MOST_STAMPS);

        int seen(Book book, int s) {
            return trace(book, s, mine) ? eventsIn(book, mine) : NONE;
        }

        int missing(Book book, int a, int b) {
            if (!trace(book, a, mine) || !trace(book, b, others)) {
                return NONE;
            }
            for (int s = 0; s < book.size(); s++) {
                if (others.at(s) == 1) {
                    mine.put(s, 0);
                }
            }
            return eventsIn(book, mine);
        }

        private static int eventsIn(Book book, Numbers marks) {
            int n = 0;
            for (int s = 0; s < book.size(); s++) {
                n += marks.at(s) == 1 && book.howOf(s) == BY_EVENT ? 1 : 0;
            }
            return n;
        }

        /** Marks s and all that it was made of; false if one of these was read. */
        private static boolean trace(Book book, int from, Numbers marks) {
            for (int s = 0; s < book.size(); s++) {
                marks.put(s, 0);
            }
            marks.put(from, 1);
            boolean told = true;
            for (int s = from; s >= 0; s--) {
                if (marks.at(s) == 1) {
                    marks.put(book.firstOf(s), 1);
                    marks.put(book.secondOf(s), 1);
                    told = told && book.howOf(s) != BY_READ;
                }
            }
            return told;
        }
    }

    /** Bits in a row; behind the last one that a row may have, they are counted but not kept. */
    private static final class Bits {
        private final Numbers cells = new Numbers(MOST_BITS);
        private int size;

        int size() {
            return size;
        }

        int bitAt(int i) {
            return i >= 0 && i < size ? cells.at(i) : NONE;
        }

        /** The lowest n bits of v, the highest of these first. */
        void push(long v, int n) {
            for (int k = n - 1; k >= 0; k--) {
                cells.put(size, (int) (v >>> k & 1));
                size++;
            }
        }

        boolean cut(int n) {
            if (n < 0 || n > size) {
                return false;
            }
            size = n;
            return true;
        }

        void copyFrom(Bits from) {
            size = from.size;
            cells.copyFrom(from.cells, size);
        }
    }

    /** Shares and heights as bits. */
    private static final class Writer {
        private static final int FIRST_WIDTH = 2;
        private static final int LAST_WIDTH = 30;

        private static void shareFrom(Trees t, int share, Bits out, int depth) {
            if (t.isNumber(share) || depth >= MOST_DIGITS) {
                out.push(t.numberOf(share), 3);
                return;
            }
            boolean left = !t.isJust(t.leftOf(share), 0);
            boolean right = !t.isJust(t.rightOf(share), 0);
            out.push((left ? 2 : 0) + (right ? 1 : 0), 2);
            if (left) {
                shareFrom(t, t.leftOf(share), out, depth + 1);
            }
            if (right) {
                shareFrom(t, t.rightOf(share), out, depth + 1);
            }
        }

        private static void heightFrom(Trees t, int e, Bits out, int depth) {
            int n = t.numberOf(e);
            if (t.isNumber(e) || depth >= MOST_DIGITS) {
                out.push(1, 1);
                pushNumber(n, out);
                return;
            }
            out.push(0, 1);
            out.push(n == 0 ? 0 : 1, 1);
            if (n != 0) {
                pushNumber(n, out);
            }
            boolean left = !t.isJust(t.leftOf(e), 0);
            boolean right = !t.isJust(t.rightOf(e), 0);
            out.push((right ? 0 : 2) + (left ? 0 : 1), 2);
            if (left) {
                heightFrom(t, t.leftOf(e), out, depth + 1);
            }
            if (right) {
                heightFrom(t, t.rightOf(e), out, depth + 1);
            }
        }

        private static void pushNumber(int n, Bits out) {
            int rest = n;
            int width = FIRST_WIDTH;
            while (width < LAST_WIDTH && rest >= 1 << width) {
                out.push(1, 1);
                rest -= 1 << width;
                width++;
            }
            out.push(0, 1);
            out.push(rest, width);
        }
    }

    /** A row of bits as a stamp; behind the first fault nothing is read any more, and each bit is NONE. */
    private static final class Reader {
        private static final int FIRST_WIDTH = 2;
        private static final int LAST_WIDTH = 20;
        private static final int PARTED = 2;
        private final Bits from;
        private int next;
        private int faultAt;

        Reader(Bits from) {
            this.from = from;
            next = 0;
            faultAt = NONE;
        }

        int firstFault() {
            return faultAt;
        }

        /** Builds the height behind all nodes and tells where. */
        int scan(Trees t) {
            next = 0;
            faultAt = NONE;
            int start = t.top();
            shareFrom(this, 0);
            heightFrom(this, t, 0);
            if (next < from.size()) {
                blame(next);
            }
            return start;
        }

        private boolean isFaulty() {
            return faultAt != NONE;
        }

        private void blame(int where) {
            if (!isFaulty()) {
                faultAt = where;
            }
        }

        private int oneBit() {
            if (next >= from.size()) {
                blame(from.size());
            }
            if (isFaulty()) {
                return NONE;
            }
            next++;
            return from.bitAt(next - 1);
        }

        private int twoBits() {
            int high = oneBit();
            int low = oneBit();
            return isFaulty() ? NONE : 2 * high + low;
        }

        private int numberHere() {
            int base = 0;
            int width = FIRST_WIDTH;
            int on = oneBit();
            while (on == 1 && width < LAST_WIDTH) {
                base += 1 << width;
                width++;
                on = oneBit();
            }
            if (on == 1) {
                blame(next - 1);
            }
            int rest = 0;
            for (int k = 0; k < width; k++) {
                rest = 2 * rest + oneBit();
            }
            return isFaulty() ? NONE : base + rest;
        }

        /** 0, 1 or PARTED; NONE behind a fault. */
        private static int shareFrom(Reader r, int depth) {
            int first = r.next;
            if (depth > MOST_DIGITS) {
                r.blame(first);
            }
            int form = r.twoBits();
            if (form <= 0) {
                return form == 0 ? r.oneBit() : NONE;
            }
            int left = form == 1 ? 0 : shareFrom(r, depth + 1);
            int right = form == 2 ? 0 : shareFrom(r, depth + 1);
            boolean leftFits = form == 1 || left != 0;
            boolean rightFits = form == 2 || right != 0;
            if (!leftFits || !rightFits || left == 1 && right == 1) {
                r.blame(first);
            }
            return r.isFaulty() ? NONE : PARTED;
        }

        private static void heightFrom(Reader r, Trees t, int depth) {
            int first = r.next;
            if (depth > MOST_DIGITS) {
                r.blame(first);
            }
            int plain = r.oneBit();
            if (plain != 0) {
                t.grow(r.numberHere());
                return;
            }
            boolean told = r.oneBit() == 1;
            int n = told ? r.numberHere() : 0;
            int form = r.twoBits();
            if (form == 3) {
                r.blame(r.next - 1);
            }
            if (r.isFaulty()) {
                return;
            }
            int parent = t.grow(n);
            if (form == 1) {
                t.grow(0);
            } else {
                heightFrom(r, t, depth + 1);
            }
            t.turn(parent);
            if (form == 2) {
                t.grow(0);
            } else {
                heightFrom(r, t, depth + 1);
            }
            if (told && n == 0 || !isWellTold(t, parent, form)) {
                r.blame(first);
            }
        }

        private static boolean isWellTold(Trees t, int parent, int form) {
            int l = t.leftOf(parent);
            int r = t.rightOf(parent);
            boolean leftFits = form == 1 || !t.isJust(l, 0);
            boolean rightFits = form == 2 || !t.isJust(r, 0);
            boolean touchesGround = t.numberOf(l) == 0 || t.numberOf(r) == 0;
            boolean alike = t.isNumber(l) && t.isNumber(r) && t.numberOf(l) == t.numberOf(r);
            return leftFits && rightFits && touchesGround && !alike;
        }
    }
}
