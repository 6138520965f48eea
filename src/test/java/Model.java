import java.util.ArrayDeque;
import java.util.ArrayList;
import java.util.Deque;
import java.util.List;
import java.util.NoSuchElementException;
import java.util.TreeSet;

/**
 * The document written down a second time, in the plainest way and with the whole Java library:
 * trees are objects, histories are sets, bits are a text, undo and image are copies of all.
 */
final class Model {
    static final int NONE = -1;

    /** A share. */
    static final class S {
        static final S NOTHING = new S(0, null, null);
        static final S ALL = new S(1, null, null);
        final int v;
        final S l;
        final S r;

        private S(int v, S l, S r) {
            this.v = v;
            this.l = l;
            this.r = r;
        }

        static S of(S l, S r) {
            if (l == NOTHING && r == NOTHING) {
                return NOTHING;
            }
            return l == ALL && r == ALL ? ALL : new S(2, l, r);
        }

        boolean parted() {
            return l != null;
        }

        int nodes() {
            return parted() ? 1 + l.nodes() + r.nodes() : 1;
        }

        int depth() {
            return parted() ? 1 + Math.max(l.depth(), r.depth()) : 0;
        }
    }

    /** A height; raw ones may be unfolded. */
    static final class H {
        final int n;
        final H l;
        final H r;

        H(int n, H l, H r) {
            this.n = n;
            this.l = l;
            this.r = r;
        }

        static H num(int n) {
            return new H(n, null, null);
        }

        boolean parted() {
            return l != null;
        }

        int least() {
            return parted() ? n + Math.min(l.least(), r.least()) : n;
        }

        int greatest() {
            return parted() ? n + Math.max(l.greatest(), r.greatest()) : n;
        }

        int nodes() {
            return parted() ? 1 + l.nodes() + r.nodes() : 1;
        }

        H less(int m) {
            return new H(n - m, l, r);
        }

        H folded() {
            if (!parted()) {
                return this;
            }
            H a = l.folded();
            H b = r.folded();
            if (!a.parted() && !b.parted() && a.n == b.n) {
                return num(n + a.n);
            }
            int m = Math.min(a.least(), b.least());
            return new H(n + m, a.less(m), b.less(m));
        }

        boolean isFolded() {
            if (!parted()) {
                return true;
            }
            boolean like = !l.parted() && !r.parted() && l.n == r.n;
            return (l.least() == 0 || r.least() == 0) && !like;
        }

        boolean like(H o) {
            if (n != o.n || parted() != o.parted()) {
                return false;
            }
            return !parted() || l.like(o.l) && r.like(o.r);
        }

        boolean isZero() {
            return !parted() && n == 0;
        }

        /** The height of the whole as seen from its left or right side. */
        H side(boolean right) {
            if (!parted()) {
                return this;
            }
            H x = right ? r : l;
            return new H(n + x.n, x.l, x.r);
        }
    }

    static final class Stamp {
        S own;
        H known;
        int how;
        int a = NONE;
        int b = NONE;
        boolean lives = true;
        boolean lost;
        boolean strange;
        TreeSet<Integer> seen = new TreeSet<>();

        Stamp copy() {
            Stamp s = new Stamp();
            s.own = own;
            s.known = known;
            s.how = how;
            s.a = a;
            s.b = b;
            s.lives = lives;
            s.lost = lost;
            s.strange = strange;
            s.seen = seen;
            return s;
        }
    }

    private static final class Fault extends RuntimeException {
        private static final long serialVersionUID = 1;
        final int at;

        Fault(int at) {
            super(null, null, false, false);
            this.at = at;
        }
    }

    private List<Stamp> stamps = new ArrayList<>();
    private List<Stamp> kept;
    private final Deque<List<Stamp>> undos = new ArrayDeque<>();
    private String row = "";
    private int fault;
    private long place;
    private int digits;
    private int eventIds;

    Model() {
        seed();
    }

    void seed() {
        stamps = new ArrayList<>();
        undos.clear();
        row = "";
        fault = NONE;
        place = 0;
        digits = NONE;
        Stamp s = new Stamp();
        s.own = S.ALL;
        s.known = H.num(0);
        stamps.add(s);
    }

    private static List<Stamp> copyOf(List<Stamp> from) {
        List<Stamp> to = new ArrayList<>();
        for (Stamp s : from) {
            to.add(s.copy());
        }
        return to;
    }

    private boolean has(int s) {
        return s >= 0 && s < stamps.size();
    }

    private boolean lives(int s) {
        return has(s) && stamps.get(s).lives;
    }

    private boolean owner(int s) {
        return lives(s) && stamps.get(s).own != S.NOTHING;
    }

    private int nodes() {
        int n = 0;
        for (Stamp s : stamps) {
            n += s.own.nodes() + s.known.nodes();
        }
        return n;
    }

    /** The state before an act; finish() decides whether the act stands. */
    private List<Stamp> before;

    private void begin() {
        before = copyOf(stamps);
    }

    private int finish(int answer) {
        boolean full = stamps.size() > 1000 || nodes() > 20000;
        for (int s = before.size(); s < stamps.size(); s++) {
            full |= stamps.get(s).own.depth() > 60;
        }
        if (full) {
            stamps = before;
            return NONE;
        }
        undos.push(before);
        return answer;
    }

    private Stamp make(S own, H known, int how, int a, int b) {
        Stamp s = new Stamp();
        s.own = own;
        s.known = known;
        s.how = how;
        s.a = a;
        s.b = b;
        for (int from : new int[] {a, b}) {
            if (from != NONE) {
                s.strange |= stamps.get(from).strange;
                s.seen.addAll(stamps.get(from).seen);
            }
        }
        stamps.add(s);
        return s;
    }

    private void spend(int s) {
        if (stamps.get(s).own != S.NOTHING) {
            stamps.get(s).lives = false;
        }
    }

    private static S[] split(S i) {
        if (!i.parted()) {
            return new S[] {S.of(S.ALL, S.NOTHING), S.of(S.NOTHING, S.ALL)};
        }
        if (i.l == S.NOTHING) {
            S[] x = split(i.r);
            return new S[] {S.of(S.NOTHING, x[0]), S.of(S.NOTHING, x[1])};
        }
        if (i.r == S.NOTHING) {
            S[] x = split(i.l);
            return new S[] {S.of(x[0], S.NOTHING), S.of(x[1], S.NOTHING)};
        }
        return new S[] {S.of(i.l, S.NOTHING), S.of(S.NOTHING, i.r)};
    }

    int fork(int s) {
        if (!owner(s)) {
            return NONE;
        }
        begin();
        Stamp old = stamps.get(s);
        S[] x = split(old.own);
        make(x[0], old.known, 1, s, NONE);
        make(x[1], old.known, 1, s, NONE);
        spend(s);
        return finish(stamps.size() - 2);
    }

    static H filled(S i, H e) {
        if (i == S.NOTHING) {
            return e;
        }
        if (i == S.ALL) {
            return H.num(e.greatest());
        }
        if (!e.parted()) {
            return e;
        }
        if (i.l == S.ALL) {
            H y = filled(i.r, e.r);
            return new H(e.n, H.num(Math.max(e.l.greatest(), y.least())), y).folded();
        }
        if (i.r == S.ALL) {
            H x = filled(i.l, e.l);
            return new H(e.n, x, H.num(Math.max(e.r.greatest(), x.least()))).folded();
        }
        return new H(e.n, filled(i.l, e.l), filled(i.r, e.r)).folded();
    }

    private static final class Grown {
        final H h;
        final long cost;

        Grown(H h, long cost) {
            this.h = h;
            this.cost = cost;
        }
    }

    private static Grown grown(S i, H e) {
        if (i == S.ALL && !e.parted()) {
            return new Grown(H.num(e.n + 1), 0);
        }
        if (!e.parted()) {
            Grown g = grown(i, new H(e.n, H.num(0), H.num(0)));
            return new Grown(g.h, g.cost + 1000);
        }
        if (i == S.ALL || i == S.NOTHING) {
            throw new IllegalStateException("can't be");
        }
        Grown left = null;
        Grown right = null;
        if (i.l != S.NOTHING) {
            Grown x = grown(i.l, e.l);
            left = new Grown(new H(e.n, x.h, e.r), x.cost + 1);
        }
        if (i.r != S.NOTHING) {
            Grown y = grown(i.r, e.r);
            right = new Grown(new H(e.n, e.l, y.h), y.cost + 1);
        }
        if (left == null) {
            return right;
        }
        return right == null || left.cost < right.cost ? left : right;
    }

    private int doEvent(int s) {
        Stamp old = stamps.get(s);
        H e = filled(old.own, old.known);
        if (e.like(old.known)) {
            e = grown(old.own, old.known).h.folded();
        }
        Stamp x = make(old.own, e, 2, s, NONE);
        eventIds++;
        x.seen.add(eventIds);
        spend(s);
        return stamps.size() - 1;
    }

    int event(int s) {
        if (!owner(s)) {
            return NONE;
        }
        begin();
        return finish(doEvent(s));
    }

    private static S together(S a, S b) {
        if (a == S.NOTHING || b == S.ALL) {
            return b;
        }
        if (b == S.NOTHING || a == S.ALL) {
            return a;
        }
        return S.of(together(a.l, b.l), together(a.r, b.r));
    }

    private static H greater(H a, H b) {
        if (!a.parted() && !b.parted()) {
            return H.num(Math.max(a.n, b.n));
        }
        return new H(0, greater(a.side(false), b.side(false)), greater(a.side(true), b.side(true)));
    }

    private int doJoin(int a, int b, int how) {
        Stamp x = stamps.get(a);
        Stamp y = stamps.get(b);
        make(together(x.own, y.own), greater(x.known, y.known).folded(), how, a, b);
        spend(a);
        spend(b);
        return stamps.size() - 1;
    }

    int join(int a, int b) {
        if (!lives(a) || !lives(b) || a == b) {
            return NONE;
        }
        begin();
        return finish(doJoin(a, b, 3));
    }

    private void doPeek(int s) {
        make(S.NOTHING, stamps.get(s).known, 4, s, NONE);
    }

    int peek(int s) {
        if (!lives(s)) {
            return NONE;
        }
        begin();
        doPeek(s);
        return finish(stamps.size() - 1);
    }

    int send(int s) {
        if (!owner(s)) {
            return NONE;
        }
        begin();
        int x = doEvent(s);
        doPeek(x);
        return finish(x);
    }

    int take(int a, int b) {
        if (!lives(a) || !lives(b) || a == b || !owner(a) && !owner(b)) {
            return NONE;
        }
        begin();
        return finish(doEvent(doJoin(a, b, 3)));
    }

    boolean lose(int s) {
        if (!owner(s)) {
            return false;
        }
        begin();
        stamps.get(s).lives = false;
        stamps.get(s).lost = true;
        undos.push(before);
        return true;
    }

    int home(int s, int t) {
        if (!lives(s) || !has(t) || !stamps.get(t).lost || !leads(t, s)) {
            return NONE;
        }
        begin();
        doJoin(s, t, 5);
        stamps.get(t).lost = false;
        return finish(stamps.size() - 1);
    }

    boolean undo() {
        if (undos.isEmpty()) {
            return false;
        }
        stamps = undos.pop();
        return true;
    }

    private static boolean lower(H a, H b) {
        if (!a.parted() && !b.parted()) {
            return a.n <= b.n;
        }
        return lower(a.side(false), b.side(false)) && lower(a.side(true), b.side(true));
    }

    private boolean leads(int a, int b) {
        return lower(stamps.get(a).known, stamps.get(b).known);
    }

    int relation(int a, int b) {
        if (!has(a) || !has(b)) {
            return NONE;
        }
        boolean x = leads(a, b);
        boolean y = leads(b, a);
        return x && y ? 0 : x ? 1 : y ? 2 : 3;
    }

    int unseen(int a, int b) {
        if (!has(a) || !has(b) || stamps.get(a).strange || stamps.get(b).strange) {
            return NONE;
        }
        TreeSet<Integer> x = new TreeSet<>(stamps.get(a).seen);
        x.removeAll(stamps.get(b).seen);
        return x.size();
    }

    private static boolean meet(S a, S b) {
        if (!a.parted() && !b.parted()) {
            return a.v == 1 && b.v == 1;
        }
        return meet(a.parted() ? a.l : a, b.parted() ? b.l : b) || meet(a.parted() ? a.r : a, b.parted() ? b.r : b);
    }

    boolean meets(int a, int b) {
        return has(a) && has(b) && meet(stamps.get(a).own, stamps.get(b).own);
    }

    private static boolean isPlace(long place, int n) {
        return n >= 0 && n <= 60 && place >= 0 && (place >> n) == 0;
    }

    private static int heightAt(H e, long place, int n) {
        if (!e.parted()) {
            return e.n;
        }
        if (n == 0) {
            return heightAt(e.side(false), 0, 0);
        }
        long first = place >> (n - 1);
        return heightAt(e.side(first == 1), place - (first << (n - 1)), n - 1);
    }

    private static boolean ownsAt(S i, long place, int n) {
        if (!i.parted()) {
            return i.v == 1;
        }
        if (n == 0) {
            return ownsAt(i.l, 0, 0);
        }
        long first = place >> (n - 1);
        return ownsAt(first == 1 ? i.r : i.l, place - (first << (n - 1)), n - 1);
    }

    int height(int s, long p, int n) {
        if (!has(s) || !isPlace(p, n)) {
            throw new NoSuchElementException();
        }
        return heightAt(stamps.get(s).known, p, n);
    }

    boolean owns(int s, long p, int n) {
        if (!has(s) || !isPlace(p, n)) {
            throw new NoSuchElementException();
        }
        return ownsAt(stamps.get(s).own, p, n);
    }

    int stamp(int s, int what) {
        if (!has(s)) {
            return NONE;
        }
        Stamp x = stamps.get(s);
        return switch (what) {
            case 0 -> x.lives ? 1 : 0;
            case 1 -> x.own.nodes();
            case 2 -> x.known.nodes();
            case 3 -> x.how;
            case 4 -> x.a;
            case 5 -> x.b;
            case 6 -> bits(s).length();
            case 7 -> x.known.least();
            case 8 -> x.known.greatest();
            case 9 -> x.lost ? 1 : 0;
            case 10 -> x.strange ? NONE : x.seen.size();
            default -> NONE;
        };
    }

    /** All places, from the left, where a is above b all over and which are no part of one such. */
    private static void above(H a, H b, String path, List<String> out) {
        if (allAbove(a, b)) {
            out.add(path);
        } else if (a.parted() || b.parted()) {
            above(a.side(false), b.side(false), path + "0", out);
            above(a.side(true), b.side(true), path + "1", out);
        }
    }

    private static boolean allAbove(H a, H b) {
        if (!a.parted() && !b.parted()) {
            return a.n > b.n;
        }
        return allAbove(a.side(false), b.side(false)) && allAbove(a.side(true), b.side(true));
    }

    boolean witness(int a, int b, int which) {
        if (relation(a, b) != 3 || which != 0 && which != 1) {
            return false;
        }
        H x = stamps.get(which == 0 ? a : b).known;
        H y = stamps.get(which == 0 ? b : a).known;
        List<String> all = new ArrayList<>();
        above(x, y, "", all);
        digits = all.get(0).length();
        place = Long.parseLong("0" + all.get(0), 2);
        return true;
    }

    long place() {
        return place;
    }

    int digits() {
        return digits;
    }

    int check(int a, int b, long first, int n, long second, int m) {
        if (!has(a) || !has(b) || !isPlace(first, n) || !isPlace(second, m)) {
            return NONE;
        }
        if (height(a, first, n) <= height(b, first, n)) {
            return 1;
        }
        return height(b, second, m) <= height(a, second, m) ? 2 : 0;
    }

    static String number(int n, int b) {
        if (n < 1 << b) {
            return "0" + binary(n, b);
        }
        return "1" + number(n - (1 << b), b + 1);
    }

    private static String binary(int n, int b) {
        StringBuilder s = new StringBuilder(Integer.toBinaryString(n));
        while (s.length() < b) {
            s.insert(0, '0');
        }
        return s.toString();
    }

    static String bits(S i) {
        if (!i.parted()) {
            return i == S.NOTHING ? "000" : "001";
        }
        if (i.l == S.NOTHING) {
            return "01" + bits(i.r);
        }
        return i.r == S.NOTHING ? "10" + bits(i.l) : "11" + bits(i.l) + bits(i.r);
    }

    static String bits(H e) {
        if (!e.parted()) {
            return "1" + number(e.n, 2);
        }
        String head = "0" + (e.n == 0 ? "0" : "1" + number(e.n, 2));
        if (e.l.isZero()) {
            return head + "01" + bits(e.r);
        }
        return e.r.isZero() ? head + "10" + bits(e.l) : head + "00" + bits(e.l) + bits(e.r);
    }

    private String bits(int s) {
        return bits(stamps.get(s).own) + bits(stamps.get(s).known);
    }

    int pack(int s) {
        if (!has(s)) {
            return NONE;
        }
        String b = bits(s);
        if (b.length() > 600) {
            return NONE;
        }
        row = b;
        return b.length();
    }

    int bit(int i) {
        return i >= 0 && i < row.length() ? row.charAt(i) - '0' : NONE;
    }

    int add(long v, int n) {
        if (n < 0 || n > 64 || row.length() + n > 600) {
            return NONE;
        }
        StringBuilder s = new StringBuilder(row);
        for (int k = n - 1; k >= 0; k--) {
            s.append((v & (1L << k)) != 0 ? '1' : '0');
        }
        row = s.toString();
        return row.length();
    }

    boolean end(int n) {
        if (n < 0 || n > row.length()) {
            return false;
        }
        row = row.substring(0, n);
        return true;
    }

    String row() {
        return row;
    }

    private int at;

    private char next() {
        if (at >= row.length()) {
            throw new Fault(row.length());
        }
        return row.charAt(at++);
    }

    private S readShare(int depth) {
        int first = at;
        if (depth > 60) {
            throw new Fault(first);
        }
        String head = "" + next() + next();
        if (head.equals("00")) {
            return next() == '1' ? S.ALL : S.NOTHING;
        }
        if (head.equals("11")) {
            S l = readShare(depth + 1);
            S r = readShare(depth + 1);
            if (l == S.NOTHING || r == S.NOTHING || l == S.ALL && r == S.ALL) {
                throw new Fault(first);
            }
            return S.of(l, r);
        }
        S side = readShare(depth + 1);
        if (side == S.NOTHING) {
            throw new Fault(first);
        }
        return head.equals("01") ? S.of(S.NOTHING, side) : S.of(side, S.NOTHING);
    }

    private int readNumber(int b) {
        if (next() == '0') {
            StringBuilder s = new StringBuilder();
            for (int k = 0; k < b; k++) {
                s.append(next());
            }
            return Integer.parseInt(s.toString(), 2);
        }
        if (b + 1 == 21) {
            throw new Fault(at - 1);
        }
        return (1 << b) + readNumber(b + 1);
    }

    private H readHeight(int depth) {
        int first = at;
        if (depth > 60) {
            throw new Fault(first);
        }
        if (next() == '1') {
            return H.num(readNumber(2));
        }
        boolean told = next() == '1';
        int n = told ? readNumber(2) : 0;
        String form = "" + next() + next();
        if (form.equals("11")) {
            throw new Fault(at - 1);
        }
        H l = form.equals("01") ? null : readHeight(depth + 1);
        H r = form.equals("10") ? null : readHeight(depth + 1);
        boolean bad = told && n == 0 || l != null && l.isZero() || r != null && r.isZero();
        H whole = new H(n, l == null ? H.num(0) : l, r == null ? H.num(0) : r);
        if (bad || !whole.isFolded()) {
            throw new Fault(first);
        }
        return whole;
    }

    int read() {
        at = 0;
        fault = NONE;
        H e;
        try {
            readShare(0);
            e = readHeight(0);
            if (at < row.length()) {
                throw new Fault(at);
            }
        } catch (Fault f) {
            fault = f.at;
            return NONE;
        }
        begin();
        make(S.NOTHING, e, 6, NONE, NONE).strange = true;
        return finish(stamps.size() - 1);
    }

    int fault() {
        return fault;
    }

    boolean image() {
        kept = copyOf(stamps);
        return true;
    }

    boolean back() {
        if (kept == null) {
            return false;
        }
        stamps = copyOf(kept);
        undos.clear();
        return true;
    }

    int count(int what) {
        int owners = 0;
        int lost = 0;
        int events = 0;
        for (int s = 0; s < stamps.size(); s++) {
            owners += owner(s) ? 1 : 0;
            lost += stamps.get(s).lost ? 1 : 0;
            events += stamps.get(s).how == 2 ? 1 : 0;
        }
        return switch (what) {
            case 0 -> stamps.size();
            case 1 -> owners;
            case 2 -> lost;
            case 3 -> events;
            case 4 -> nodes();
            case 5 -> row.length();
            case 6 -> undos.size();
            default -> NONE;
        };
    }
}
