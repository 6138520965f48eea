import java.util.ArrayList;
import java.util.List;
import java.util.NoSuchElementException;
import java.util.Random;

/** Random runs of calls on the class and on the model, which must answer alike; the seeds are fixed. */
public final class ModelTest {
    private static final int RUNS_A_MODE = 60;
    private static final int CALLS = 512;
    private static final int THROWN = -77;

    private final Checks checks;
    private final Random random;
    private final int mode;
    private final SplitClocks x = new SplitClocks();
    private final Model m = new Model();
    private final String name;
    private int calls;

    private ModelTest(Checks checks, int mode, int run) {
        this.checks = checks;
        this.mode = mode;
        this.random = new Random(1000L * mode + run);
        this.name = "mode " + mode + " run " + run + " call ";
    }

    public static void main(String[] args) {
        Checks checks = new Checks("model");
        int runs = args.length > 0 ? Integer.parseInt(args[0]) : RUNS_A_MODE;
        for (int mode = 0; mode < WEIGHTS.length && checks.isFine(); mode++) {
            for (int run = 0; run < runs && checks.isFine(); run++) {
                new ModelTest(checks, mode, run).go();
            }
        }
        checks.close();
    }

    private static final String[] ACTS = {
        "fork", "event", "join", "peek", "send", "take", "lose", "home", "undo", "ask", "bits", "strange", "image",
        "back", "seed", "deepFork", "askBits",
    };
    private static final int[][] WEIGHTS = {
        // fork event join peek send take lose home undo ask bits strange image back seed deepFork askBits
        {10, 12, 6, 4, 4, 5, 3, 5, 3, 40, 8, 3, 1, 1, 0, 0, 3},
        {3, 10, 4, 2, 2, 3, 2, 3, 2, 15, 4, 2, 1, 1, 0, 40, 4},
        {30, 2, 2, 1, 30, 30, 1, 1, 1, 4, 1, 1, 0, 0, 0, 0, 0},
        {2, 20, 6, 10, 10, 10, 1, 1, 1, 6, 1, 1, 0, 0, 0, 60, 1},
        {3, 3, 3, 1, 1, 4, 1, 1, 2, 10, 20, 40, 1, 1, 0, 1, 10},
        {10, 10, 6, 3, 4, 5, 4, 6, 30, 15, 3, 3, 6, 4, 1, 2, 1},
        {8, 20, 14, 6, 6, 14, 4, 8, 1, 30, 4, 6, 1, 0, 0, 0, 3},
    };

    private void go() {
        for (calls = 0; calls < CALLS && checks.isFine();) {
            step(pick());
        }
        sweep();
    }

    private String pick() {
        int sum = 0;
        for (int w : WEIGHTS[mode]) {
            sum += w;
        }
        int k = random.nextInt(sum);
        int i = 0;
        while (k >= WEIGHTS[mode][i]) {
            k -= WEIGHTS[mode][i];
            i++;
        }
        return ACTS[i];
    }

    private void due(String call, long got, long want) {
        calls++;
        checks.due(name + calls + ": " + call, got, want);
    }

    private int any() {
        int n = m.count(0);
        int k = random.nextInt(20);
        if (k == 0) {
            return new int[] {-1, n, n + 1, 1000, Integer.MIN_VALUE, Integer.MAX_VALUE}[random.nextInt(6)];
        }
        return k < 8 ? Math.max(0, n - 1 - random.nextInt(6)) : random.nextInt(n);
    }

    private int among(boolean owner, boolean lost) {
        if (random.nextInt(25) == 0) {
            return any();
        }
        List<Integer> all = new ArrayList<>();
        for (int s = 0; s < m.count(0); s++) {
            boolean fits = lost ? m.stamp(s, 9) == 1
                : m.stamp(s, 0) == 1 && (!owner || m.stamp(s, 1) > 1 || m.stamp(s, 6) > 0 && ownsAll(s));
            if (fits) {
                all.add(s);
            }
        }
        if (all.isEmpty()) {
            return any();
        }
        return random.nextInt(3) == 0 ? all.get(all.size() - 1) : all.get(random.nextInt(all.size()));
    }

    private boolean ownsAll(int s) {
        return m.owns(s, 0, 0);
    }

    private int owner() {
        return among(true, false);
    }

    private int living() {
        return among(random.nextBoolean(), false);
    }

    private void step(String act) {
        switch (act) {
            case "fork" -> one("fork", owner());
            case "event" -> one("event", owner());
            case "peek" -> one("peek", living());
            case "send" -> one("send", owner());
            case "lose" -> one("lose", owner());
            case "join", "take" -> two(act, living(), living());
            case "home" -> two("home", living(), among(false, true));
            case "undo" -> due("undo()", x.undo() ? 1 : 0, m.undo() ? 1 : 0);
            case "ask" -> ask();
            case "askBits" -> askBits();
            case "bits" -> bits();
            case "strange" -> strange();
            case "image" -> due("image()", x.image() ? 1 : 0, m.image() ? 1 : 0);
            case "back" -> due("back()", x.back() ? 1 : 0, m.back() ? 1 : 0);
            case "seed" -> {
                x.seed();
                m.seed();
                calls++;
            }
            default -> deepFork();
        }
    }

    private void one(String act, int s) {
        String call = act + "(" + s + ")";
        switch (act) {
            case "fork" -> due(call, x.fork(s), m.fork(s));
            case "event" -> due(call, x.event(s), m.event(s));
            case "peek" -> due(call, x.peek(s), m.peek(s));
            case "send" -> due(call, x.send(s), m.send(s));
            default -> due(call, x.lose(s) ? 1 : 0, m.lose(s) ? 1 : 0);
        }
    }

    private void two(String act, int a, int b) {
        String call = act + "(" + a + ", " + b + ")";
        switch (act) {
            case "join" -> due(call, x.join(a, b), m.join(a, b));
            case "take" -> due(call, x.take(a, b), m.take(a, b));
            default -> due(call, x.home(a, b), m.home(a, b));
        }
    }

    private void deepFork() {
        int best = -1;
        int most = -1;
        for (int s = 0; s < m.count(0); s++) {
            if (m.stamp(s, 0) == 1 && m.stamp(s, 1) >= most) {
                most = m.stamp(s, 1);
                best = s;
            }
        }
        if (random.nextInt(6) == 0) {
            best--;
        }
        one("fork", best);
        if (mode == 3 && random.nextInt(3) == 0) {
            one("event", m.count(0) - 1);
        }
    }

    private void ask() {
        int a = any();
        int b = any();
        int what = random.nextInt(13) - 1;
        int n = random.nextInt(8) == 0 ? random.nextInt(64) - 1 : random.nextInt(8);
        long p = somePlace(n);
        switch (random.nextInt(14)) {
            case 0, 1 -> due("relation(" + a + ", " + b + ")", x.relation(a, b), m.relation(a, b));
            case 2, 3 -> due("unseen(" + a + ", " + b + ")", x.unseen(a, b), m.unseen(a, b));
            case 4 -> due("meets(" + a + ", " + b + ")", x.meets(a, b) ? 1 : 0, m.meets(a, b) ? 1 : 0);
            case 5 -> heights(a, p, n);
            case 6 -> shares(a, p, n);
            case 7, 8, 9 -> due("stamp(" + a + ", " + what + ")", x.stamp(a, what), m.stamp(a, what));
            case 10, 11 -> witness(a, b);
            case 12 -> due("count(" + what + ")", x.count(what), m.count(what));
            default -> {
                int k = random.nextInt(8);
                long q = somePlace(k);
                due("check(" + a + ", " + b + ", " + p + ", " + n + ", " + q + ", " + k + ")",
                    x.check(a, b, p, n, q, k), m.check(a, b, p, n, q, k));
            }
        }
    }

    private long somePlace(int n) {
        long p = n <= 0 || n > 62 ? random.nextInt(2) : random.nextLong() & (1L << n) - 1;
        int k = random.nextInt(30);
        return k == 0 ? -1 : k == 1 && n >= 0 && n < 62 ? 1L << n : p;
    }

    private void heights(int s, long p, int n) {
        long got;
        long want;
        try {
            got = x.height(s, p, n);
        } catch (NoSuchElementException e) {
            got = THROWN;
        }
        try {
            want = m.height(s, p, n);
        } catch (NoSuchElementException e) {
            want = THROWN;
        }
        due("height(" + s + ", " + p + ", " + n + ")", got, want);
    }

    private void shares(int s, long p, int n) {
        long got;
        long want;
        try {
            got = x.owns(s, p, n) ? 1 : 0;
        } catch (NoSuchElementException e) {
            got = THROWN;
        }
        try {
            want = m.owns(s, p, n) ? 1 : 0;
        } catch (NoSuchElementException e) {
            want = THROWN;
        }
        due("owns(" + s + ", " + p + ", " + n + ")", got, want);
    }

    private void witness(int a, int b) {
        int which = random.nextInt(12) == 0 ? 2 - 3 * random.nextInt(2) : random.nextInt(2);
        due("witness(" + a + ", " + b + ", " + which + ")", x.witness(a, b, which) ? 1 : 0, m.witness(a, b, which) ? 1 : 0);
        told();
    }

    private void told() {
        due("place()", x.place(), m.place());
        due("digits()", x.digits(), m.digits());
    }

    private void askBits() {
        int i = random.nextInt(640) - 10;
        switch (random.nextInt(3)) {
            case 0 -> due("bit(" + i + ")", x.bit(i), m.bit(i));
            case 1 -> due("count(5)", x.count(5), m.count(5));
            default -> due("fault()", x.fault(), m.fault());
        }
    }

    private void bits() {
        switch (random.nextInt(5)) {
            case 0, 1 -> {
                int s = any();
                due("pack(" + s + ")", x.pack(s), m.pack(s));
            }
            case 2 -> add(random.nextLong(), random.nextInt(69) - 2);
            case 3 -> {
                int n = random.nextInt(m.count(5) + 4) - 2;
                due("end(" + n + ")", x.end(n) ? 1 : 0, m.end(n) ? 1 : 0);
            }
            default -> readRow();
        }
    }

    private void add(long v, int n) {
        due("add(" + v + ", " + n + ")", x.add(v, n), m.add(v, n));
    }

    private void readRow() {
        due("read() of " + m.row(), x.read(), m.read());
        due("fault()", x.fault(), m.fault());
    }

    /** A row of its own making, often right, often wrong by a little. */
    private void strange() {
        String s;
        if (random.nextInt(3) == 0 && m.pack(random.nextInt(m.count(0))) != Model.NONE) {
            s = m.row();
        } else {
            int errors = random.nextInt(3) == 0 ? 8 : 1000;
            s = rawShare(random.nextInt(5), errors) + rawHeight(random.nextInt(5), errors);
        }
        if (random.nextInt(40) == 0) {
            String link = random.nextBoolean() ? "0001" : "0010";
            s = "000" + link.repeat(57 + random.nextInt(6)) + "1001";
        }
        if (random.nextInt(40) == 0) {
            s = "01".repeat(57 + random.nextInt(6)) + "0011000";
        }
        int k = random.nextInt(6);
        if (k == 0 && !s.isEmpty()) {
            int i = random.nextInt(s.length());
            s = s.substring(0, i) + (s.charAt(i) == '0' ? '1' : '0') + s.substring(i + 1);
        } else if (k == 1) {
            s = s.substring(0, random.nextInt(s.length() + 1));
        } else if (k == 2) {
            s = s + random.nextInt(2);
        }
        load(s);
        readRow();
    }

    private void load(String s) {
        x.end(0);
        m.end(0);
        calls++;
        for (int i = 0; i < s.length(); i += 64) {
            String part = s.substring(i, Math.min(s.length(), i + 64));
            add(Long.parseUnsignedLong(part, 2), part.length());
        }
    }

    private String rawShare(int depth, int errors) {
        int k = random.nextInt(depth <= 0 ? 2 : 6);
        if (k < 2) {
            return random.nextInt(errors) == 0 ? "000" : "001";
        }
        if (k == 2) {
            return "01" + rawShare(depth - 1, errors);
        }
        if (k == 3) {
            return "10" + rawShare(depth - 1, errors);
        }
        String one = "01" + rawShare(depth - 2, errors);
        String other = random.nextInt(errors) == 0 ? "001" : rawShare(depth - 1, errors);
        return random.nextBoolean() ? "11" + one + other : "11" + other + one;
    }

    private String rawHeight(int depth, int errors) {
        if (depth <= 0 || random.nextInt(5) == 0) {
            return "1" + Model.number(someNumber() + (random.nextInt(errors) == 0 ? 0 : 1), 2);
        }
        String head = "00";
        if (random.nextBoolean()) {
            head = "01" + Model.number(random.nextInt(errors) == 0 ? 0 : 1 + someNumber(), 2);
        }
        int form = random.nextInt(3);
        if (form == 0) {
            String side = random.nextInt(errors) == 0 ? "1000" : rawHeight(depth - 1, errors);
            String ground = random.nextInt(errors) == 0 ? rawHeight(depth - 1, errors) : "0001" + rawHeight(depth - 2, errors);
            return head + "00" + (random.nextBoolean() ? side + ground : ground + side);
        }
        return head + (random.nextInt(errors) == 0 ? "11" : form == 1 ? "01" : "10") + rawHeight(depth - 1, errors);
    }

    private int someNumber() {
        int k = random.nextInt(30);
        return k == 0 ? random.nextInt((1 << 21) - 5) : k == 1 ? (1 << 21) - 6 : random.nextInt(k < 8 ? 40 : 4);
    }

    /** Behind a run: all stamps, whole. */
    private void sweep() {
        for (int what = -1; what < 8; what++) {
            due("count(" + what + ")", x.count(what), m.count(what));
        }
        told();
        due("fault()", x.fault(), m.fault());
        String row = m.row();
        for (int i = 0; i <= row.length(); i++) {
            due("bit(" + i + ")", x.bit(i), m.bit(i));
        }
        int n = m.count(0);
        for (int s = 0; s < n && checks.isFine(); s++) {
            for (int what = -1; what < 12; what++) {
                due("stamp(" + s + ", " + what + ")", x.stamp(s, what), m.stamp(s, what));
            }
            due("pack(" + s + ")", x.pack(s), m.pack(s));
            for (int i = 0; i < m.row().length(); i++) {
                due("bit(" + i + ") of stamp " + s, x.bit(i), m.bit(i));
            }
            int t = random.nextInt(n);
            due("relation(" + s + ", " + t + ")", x.relation(s, t), m.relation(s, t));
            due("unseen(" + s + ", " + t + ")", x.unseen(s, t), m.unseen(s, t));
            due("meets(" + s + ", " + t + ")", x.meets(s, t) ? 1 : 0, m.meets(s, t) ? 1 : 0);
            witness(s, t);
        }
        boolean more = true;
        while (more && checks.isFine()) {
            more = m.undo();
            due("undo()", x.undo() ? 1 : 0, more ? 1 : 0);
            due("count(1)", x.count(1), m.count(1));
            due("count(2)", x.count(2), m.count(2));
            due("count(4)", x.count(4), m.count(4));
        }
        due("back()", x.back() ? 1 : 0, m.back() ? 1 : 0);
        for (int what = 0; what < 7; what++) {
            due("count(" + what + ")", x.count(what), m.count(what));
        }
    }
}
