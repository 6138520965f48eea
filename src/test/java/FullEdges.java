import java.util.function.Supplier;
import java.util.function.ToLongFunction;

/** The sentences behind the terms: whose memory it is, refused calls, and what is full. */
final class FullEdges extends Runs {
    private static final int MOST_STAMPS = 1000;
    private static final int MOST_NODES = 20000;
    /** Stamps of busy(); LEFT, MIDDLE and LOST stand in actors() too. */
    private static final int LEFT = 1;
    private static final int SPENT = 2;
    private static final int MIDDLE = 3;
    private static final int LOST = 5;
    private static final int PEEKED = 7;
    private static final int HIGH_RIGHT = 9;
    private static final int HIGH_LEFT = 10;
    private static final int NO_SUCH = 11;
    private static Words words;

    static void run(Words w) {
        words = w;
        ownMemory();
        refusedActs();
        refusedQuestions();
        refusedRows();
        refusedUndoAndBack();
        fullOfStamps();
        fullOfNodes();
        fullOfDigits();
        goesOnAtSixtyDigits();
    }

    private static void says(String quote) {
        words.says(Words.BEHIND, quote);
    }

    private static void ownMemory() {
        says("All memory is the house's own.");
        SplitClocks x = new SplitClocks();
        SplitClocks y = new SplitClocks();
        String fresh = Twins.all(y);
        x.fork(0);
        x.event(1);
        x.event(2);
        x.witness(3, 4, 1);
        x.pack(3);
        x.add(0, 1);
        x.read();
        x.image();
        text("another object", Twins.all(y), fresh);
        no("another one's image", y.back());
        no("another one's acts", y.undo());
        String before = Twins.all(x);
        y.event(0);
        y.image();
        y.seed();
        text("the first object", Twins.all(x), before);
    }

    /** Owners of 0, 10 and 111 and the lost one of 110, all of them knowing nothing; the row is a good one. */
    private static SplitClocks actors() {
        SplitClocks x = new SplitClocks();
        x.fork(0);
        x.fork(2);
        x.fork(4);
        x.lose(LOST);
        load(x, "0001000");
        return x;
    }

    /** Something of each kind: stamps that live, are spent, lost, own nothing; acts, a row, a fault, a witness, an image. */
    private static SplitClocks busy() {
        SplitClocks x = actors();
        x.image();
        x.peek(LEFT);
        x.event(MIDDLE);
        x.undo();
        x.send(MIDDLE);
        x.undo();
        x.peek(LEFT);
        knower(x, "(0 0 1)");
        knower(x, "(0 1 0)");
        x.witness(HIGH_RIGHT, HIGH_LEFT, 0);
        x.add(1, 2);
        x.read();
        return x;
    }

    private static void isBusy() {
        SplitClocks x = busy();
        text("counts", Twins.counts(x), "counts 11 3 1 0 " + x.count(4) + " 13 8");
        due("stamp(10, 3)", x.stamp(HIGH_LEFT, 3), 6);
        due("fault()", x.fault(), 11);
        isTold(x, 1, 1);
    }

    private static void none(String call, ToLongFunction<SplitClocks> act) {
        Twins.refused(call, FullEdges::busy, act, NONE);
    }

    private static void isFalse(String call, ToLongFunction<SplitClocks> act) {
        Twins.refused(call, FullEdges::busy, act, 0);
    }

    private static int[] nobody() {
        return new int[] {-1, NO_SUCH, NO_SUCH + 1, 1000, Integer.MIN_VALUE, Integer.MAX_VALUE};
    }

    private static void refusedActs() {
        says("A refused call answers NONE, or false, and changes nothing.");
        isBusy();
        for (int s : new int[] {-1, NO_SUCH, Integer.MIN_VALUE, Integer.MAX_VALUE, SPENT, LOST}) {
            none("fork(" + s + ")", x -> x.fork(s));
            none("event(" + s + ")", x -> x.event(s));
            none("peek(" + s + ")", x -> x.peek(s));
            none("send(" + s + ")", x -> x.send(s));
            isFalse("lose(" + s + ")", x -> x.lose(s) ? 1 : 0);
            none("join(" + s + ", 1)", x -> x.join(s, LEFT));
            none("join(1, " + s + ")", x -> x.join(LEFT, s));
            none("take(" + s + ", 1)", x -> x.take(s, LEFT));
            none("take(1, " + s + ")", x -> x.take(LEFT, s));
            none("home(" + s + ", 5)", x -> x.home(s, LOST));
        }
        for (int s : new int[] {-1, NO_SUCH, Integer.MIN_VALUE, Integer.MAX_VALUE, SPENT, LEFT, MIDDLE, PEEKED}) {
            none("home(1, " + s + ")", x -> x.home(LEFT, s));
        }
        for (int s : new int[] {PEEKED, HIGH_LEFT}) {
            none("fork(" + s + ") of one that owns nothing", x -> x.fork(s));
            none("event(" + s + ") of one that owns nothing", x -> x.event(s));
            none("send(" + s + ") of one that owns nothing", x -> x.send(s));
            isFalse("lose(" + s + ") of one that owns nothing", x -> x.lose(s) ? 1 : 0);
        }
        for (int s : new int[] {LEFT, PEEKED}) {
            none("join(" + s + ") with itself", x -> x.join(s, s));
            none("take(" + s + ") with itself", x -> x.take(s, s));
        }
        none("take of two that own nothing", x -> x.take(PEEKED, HIGH_LEFT));
    }

    private static void refusedQuestions() {
        for (int s : nobody()) {
            none("relation(" + s + ", 1)", x -> x.relation(s, LEFT));
            none("relation(1, " + s + ")", x -> x.relation(LEFT, s));
            none("unseen(" + s + ", 1)", x -> x.unseen(s, LEFT));
            none("unseen(1, " + s + ")", x -> x.unseen(LEFT, s));
            isFalse("meets(" + s + ", 1)", x -> x.meets(s, LEFT) ? 1 : 0);
            isFalse("meets(1, " + s + ")", x -> x.meets(LEFT, s) ? 1 : 0);
            none("stamp(" + s + ", 0)", x -> x.stamp(s, 0));
            isFalse("witness(" + s + ", 10, 0)", x -> x.witness(s, HIGH_LEFT, 0) ? 1 : 0);
            isFalse("witness(10, " + s + ", 0)", x -> x.witness(HIGH_LEFT, s, 0) ? 1 : 0);
            none("check(" + s + ", 10, ..)", x -> x.check(s, HIGH_LEFT, 0, 0, 0, 0));
            none("check(10, " + s + ", ..)", x -> x.check(HIGH_LEFT, s, 0, 0, 0, 0));
            Twins.refused("height(" + s + ", 0, 0)", FullEdges::busy, x -> heightOrThrown(x, s, 0, 0), THROWN);
            Twins.refused("owns(" + s + ", 0, 0)", FullEdges::busy, x -> ownsOrThrown(x, s, 0, 0), THROWN);
        }
        Twins.refused("height(1, 2, 1)", FullEdges::busy, x -> heightOrThrown(x, LEFT, 2, 1), THROWN);
        Twins.refused("owns(1, 0, 61)", FullEdges::busy, x -> ownsOrThrown(x, LEFT, 0, 61), THROWN);
        none("stamp(1, 11)", x -> x.stamp(LEFT, 11));
        none("stamp(1, -1)", x -> x.stamp(LEFT, -1));
        none("count(7)", x -> x.count(7));
        none("count(-1)", x -> x.count(-1));
        none("unseen with one that was read", x -> x.unseen(HIGH_LEFT, LEFT));
        isFalse("witness of one that leads", x -> x.witness(LEFT, HIGH_LEFT, 0) ? 1 : 0);
        isFalse("witness with another which", x -> x.witness(HIGH_LEFT, HIGH_RIGHT, 2) ? 1 : 0);
        isFalse("witness with another which", x -> x.witness(HIGH_LEFT, HIGH_RIGHT, -1) ? 1 : 0);
        none("check with no such place", x -> x.check(LEFT, HIGH_LEFT, 1, 0, 0, 0));
    }

    private static void refusedRows() {
        for (int s : nobody()) {
            none("pack(" + s + ")", x -> x.pack(s));
        }
        for (int n : new int[] {-1, 65, 600, Integer.MIN_VALUE, Integer.MAX_VALUE}) {
            none("add(1, " + n + ")", x -> x.add(1, n));
        }
        for (int i : new int[] {-1, 13, 600, Integer.MIN_VALUE, Integer.MAX_VALUE}) {
            none("bit(" + i + ")", x -> x.bit(i));
        }
        for (int n : new int[] {-1, 14, 600, 601, Integer.MIN_VALUE, Integer.MAX_VALUE}) {
            isFalse("end(" + n + ")", x -> x.end(n) ? 1 : 0);
        }
        none("read() with the same fault again", x -> x.read());
        Supplier<SplitClocks> bitsAreFull = () -> {
            SplitClocks x = busy();
            for (int k = 0; k < MOST_TRIES && x.count(5) <= 600 - 37; k++) {
                x.add(5, 37);
            }
            return x;
        };
        Twins.refused("add(1, 64) to a row that is full", bitsAreFull, x -> x.add(1, 64), NONE);
        // a height that grew beyond what a row holds
        Supplier<SplitClocks> long602 = () -> {
            SplitClocks x = new SplitClocks();
            int s = readOf(x, "000" + "01110000101".repeat(44) + "0101101".repeat(15) + "0001" + "1001");
            x.fork(x.join(0, s));
            x.pack(0);
            return x;
        };
        Twins.refused("pack of 602 bits", long602, x -> x.pack(3), NONE);
    }

    private static void refusedUndoAndBack() {
        Twins.refused("undo() of nothing", SplitClocks::new, x -> x.undo() ? 1 : 0, 0);
        Twins.refused("back() to nothing", SplitClocks::new, x -> x.back() ? 1 : 0, 0);
        Twins.refused("back() without an image", () -> {
            SplitClocks x = new SplitClocks();
            x.send(0);
            x.lose(1);
            return x;
        }, x -> x.back() ? 1 : 0, 0);
    }

    /** An act on what withStamps() and withNodes() make, and how many stamps and nodes it adds. */
    private record Act(String name, int stamps, int nodes, ToLongFunction<SplitClocks> call) {
    }

    private static final Act[] ACTS = {
        new Act("fork", 2, 12, x -> x.fork(LEFT)),
        new Act("event", 1, 6, x -> x.event(LEFT)),
        new Act("join", 1, 6, x -> x.join(LEFT, MIDDLE)),
        new Act("peek", 1, 2, x -> x.peek(LEFT)),
        new Act("send", 2, 10, x -> x.send(LEFT)),
        new Act("take", 2, 14, x -> x.take(LEFT, MIDDLE)),
        new Act("home", 1, 8, x -> x.home(MIDDLE, LOST)),
        new Act("read", 1, 2, x -> x.read()),
    };

    private static SplitClocks withStamps(int stamps) {
        SplitClocks x = actors();
        int s = 6;
        for (int k = 0; k < MOST_TRIES && x.count(0) + 2 <= stamps; k++) {
            s = x.send(s);
        }
        if (x.count(0) < stamps) {
            x.peek(LEFT);
        }
        return x;
    }

    private static void fullOfStamps() {
        says("FULL: 1000 stamps,");
        for (Act act : ACTS) {
            stampsFor(act);
        }
        SplitClocks x = withStamps(MOST_STAMPS);
        yes("lose() makes no stamp", x.lose(LEFT));
        due("count(2)", x.count(2), 2);
        yes("undo()", x.undo());
        yes("undo() makes room", x.undo());
        due("count(0)", x.count(0), 999);
        due("peek()", x.peek(LEFT), 999);
        due("peek()", x.peek(LEFT), NONE);
        x.seed();
        due("seed() makes room", x.fork(0), 1);
    }

    private static void stampsFor(Act act) {
        SplitClocks x = withStamps(MOST_STAMPS - act.stamps());
        int before = x.count(0);
        due(act.name() + " to 1000 stamps", act.call().applyAsLong(x), act.name().equals("take") ? before + 1 : before);
        due("stamps", x.count(0), MOST_STAMPS);
        Supplier<SplitClocks> full = () -> withStamps(MOST_STAMPS - act.stamps() + 1);
        Twins.refused(act.name() + " to 1001 stamps", full, act.call(), NONE);
    }

    /** 239 nodes: two ways of 59 levels. */
    private static final String BIG = "000" + "0000" + "0001".repeat(59) + "1001" + "0001".repeat(59) + "1001";

    private static SplitClocks withNodes(int nodes) {
        SplitClocks x = actors();
        int big = readOf(x, BIG);
        for (int k = 0; k < MOST_TRIES && x.count(4) + 240 <= nodes; k++) {
            x.peek(big);
        }
        for (int k = 0; k < MOST_TRIES && x.count(4) < nodes; k++) {
            x.peek(LEFT);
        }
        load(x, "0001000");
        return x;
    }

    private static void fullOfNodes() {
        says("or more than 20000 NODES in all stamps that were made,");
        for (Act act : ACTS) {
            nodesFor(act);
        }
        nodesFor(new Act("peek of much", 1, 240, x -> x.peek(7)));
        nodesFor(new Act("join of much", 1, 242, x -> x.join(LEFT, 7)));
        SplitClocks x = withNodes(MOST_NODES);
        yes("lose() makes no node", x.lose(LEFT));
        yes("undo()", x.undo());
        due("peek()", x.peek(LEFT), NONE);
        yes("undo() makes room", x.undo());
        due("peek()", x.peek(LEFT), x.count(0) - 1);
        due("NODES of spent and lost ones count too", x.count(4), MOST_NODES);
        bigTrees();
        // a big row that is good, but too big
        Twins.refused("read() of 240 nodes", () -> {
            SplitClocks y = withNodes(MOST_NODES - 238);
            load(y, BIG);
            return y;
        }, y -> y.read(), NONE);
    }

    /** 231 nodes: two ways of 55 levels behind a place of 4 digits. */
    private static String bush(int place) {
        StringBuilder s = new StringBuilder("000");
        for (int k = 3; k >= 0; k--) {
            s.append((place >> k & 1) == 1 ? "0001" : "0010");
        }
        return s + "0000" + "0001".repeat(55) + "1001" + "0001".repeat(55) + "1001";
    }

    /** Sixteen bushes come together two by two: the last stamp, 31, has all of them. */
    private static SplitClocks bushes() {
        SplitClocks x = new SplitClocks();
        for (int place = 0; place < 16; place++) {
            readOf(x, bush(place));
        }
        for (int s = 1; s < 31; s += 2) {
            x.join(s, s + 1);
        }
        return x;
    }

    private static void bigTrees() {
        SplitClocks x = bushes();
        due("stamps", x.count(0), 32);
        int nodes = 16 * 223 + 15;
        due("nodes of all bushes", x.stamp(31, 2), nodes);
        for (long place = 0; place < 32; place++) {
            long end = (place + 1 << 55) - 1;
            due("height at the end of " + place, heightOrThrown(x, 31, end, 60), 1);
            due("height ahead of it", heightOrThrown(x, 31, end - 1, 60), 0);
        }
        due("there is no room for all of it again", x.count(4) + nodes > MOST_NODES ? 1 : 0, 1);
        Twins.refused("join of all with the seed", FullEdges::bushes, y -> y.join(0, 31), NONE);
        Twins.refused("join of all with a part", FullEdges::bushes, y -> y.join(31, 30), NONE);
        Twins.refused("take of all", FullEdges::bushes, y -> y.take(0, 31), NONE);
        Twins.refused("peek of all", FullEdges::bushes, y -> y.peek(31), NONE);
        due("a part of it has room", x.join(0, 29), 32);
    }

    private static void nodesFor(Act act) {
        SplitClocks x = withNodes(MOST_NODES - act.nodes());
        int before = x.count(0);
        due(act.name() + " to 20000 nodes", act.call().applyAsLong(x), act.name().equals("take") ? before + 1 : before);
        due("nodes", x.count(4), MOST_NODES);
        Twins.refused(act.name() + " to 20002 nodes", () -> withNodes(MOST_NODES - act.nodes() + 2), act.call(), NONE);
    }

    private static SplitClocks sixtyDigits(boolean right) {
        SplitClocks x = new SplitClocks();
        int s = 0;
        for (int k = 0; k < 60; k++) {
            s = x.fork(s) + (right ? 1 : 0);
        }
        return x;
    }

    private static void fullOfDigits() {
        says("or a PLACE of more than 60 digits: refused.");
        SplitClocks x = sixtyDigits(false);
        due("forks to 60 digits", x.count(0), 121);
        due("NODES of what has 60 digits", x.stamp(119, 1), 121);
        Twins.refused("fork of the first place of 60 digits", () -> sixtyDigits(false), y -> y.fork(119), NONE);
        Twins.refused("fork of the second one", () -> sixtyDigits(false), y -> y.fork(120), NONE);
        Twins.refused("fork of the last one", () -> sixtyDigits(true), y -> y.fork(120), NONE);
        due("fork of one at 59 digits", x.fork(118), 121);
        due("its half at 60 digits", x.fork(121), NONE);
        // two such together are one of 59 digits
        due("join of two halves", x.join(119, 120), 123);
        due("fork of what they are", x.fork(123), 124);
        due("fork at 60 digits again", x.fork(124), NONE);
    }

    private static void goesOnAtSixtyDigits() {
        SplitClocks x = sixtyDigits(false);
        due("event", x.event(119), 121);
        due("send", x.send(121), 122);
        due("take", x.take(120, 123), 125);
        due("peek", x.peek(125), 126);
        due("height at 0", heightOrThrown(x, 125, 0, 60), 2);
        due("height at 1", heightOrThrown(x, 125, 1, 60), 2);
        due("height at 2", heightOrThrown(x, 125, 2, 60), 0);
        due("join with the far half", x.join(2, 125), 127);
        due("fork of sides that are there", x.fork(127), 128);
        due("what has 60 digits is left alone again", x.fork(128), NONE);
        due("the far half", x.fork(129), 130);
        x.lose(122);
        due("home", x.home(128, 122), 132);
        due("nodes of 59 digits", x.stamp(132, 1), 119);
        no("meets", x.meets(119, 120));
        yes("meets", x.meets(119, 132));
    }
}
