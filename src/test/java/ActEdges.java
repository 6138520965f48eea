/** Promises 1 to 11, 28 and 29: what is done, undone, kept and brought back; and how long an object goes on. */
final class ActEdges extends Runs {
    private static Words words;

    static void run(Words w) {
        words = w;
        whatItIs();
        calls512();
        newObject();
        seed();
        fork();
        event();
        join();
        peek();
        send();
        take();
        lose();
        home();
        undo();
        undoOfEach();
        image();
        back();
    }

    private static void says(int promise, String quote) {
        words.says("Promise " + promise, quote);
    }

    private static void first(String quote) {
        words.says("What it is", quote);
    }

    /** One run through the document's first line. */
    private static void whatItIs() {
        first("Split clocks: who knew what when, among parties that come, part in two, melt and leave, with no list of all:");
        SplitClocks x = new SplitClocks();
        due("one comes and parts in two", x.fork(0), 1);
        due("the left one knows something", x.event(1), 3);
        due("the right one does not", x.relation(2, 3), 1);
        due("both melt", x.join(2, 3), 4);
        due("what came of them knows it", x.relation(3, 4), 0);
        yes("it leaves", x.lose(4));
        due("nobody is left", x.count(1), 0);
        first("stamps of a share of a line and a height over it, kept in the form of fewest nodes,");
        shaped(x, 3, "[1 0] (0 1 0)");
        shaped(x, 4, "1 (0 1 0)");
        x.seed();
        x.fork(0);
        x.event(1);
        x.event(2);
        due("two stamps of two sides melt to two nodes", x.join(3, 4), 5);
        shaped(x, 5, "1 1");
        first("compared exactly,");
        int low = readOf(x, "000" + "0001".repeat(59) + "0010" + "1001");
        int high = readOf(x, "000" + "0001".repeat(59) + "0001" + "1001");
        int both = readOf(x, "000" + "0001".repeat(59) + "1001");
        due("heights that differ at the last two places alone", x.relation(low, high), 3);
        due("at the last one alone", x.relation(low, both), 1);
        due("at the one ahead of it alone", x.relation(both, high), 2);
        first("packed to bits and read back, with witnesses,");
        due("packed", x.pack(low), 3 + 4 * 60 + 4);
        due("read back", x.relation(x.read(), low), 0);
        yes("a witness", x.witness(high, low, 0));
        isTold(x, (1L << 60) - 1, 60);
        first("lost shares brought home, acts undone, images.");
        x.fork(5);
        int left = x.count(0) - 2;
        x.lose(left);
        due("brought home", x.home(left + 1, left), left + 2);
        yes("undone", x.undo());
        due("it is lost again", x.stamp(left, 9), 1);
        yes("an image", x.image());
        x.seed();
        yes("back", x.back());
        due("it is lost still", x.stamp(left, 9), 1);
    }

    private static void calls512() {
        first("An object is used for at most 512 calls after it has been made; what later calls answer is free.");
        SplitClocks x = new SplitClocks();
        for (int k = 0; k < 510; k++) {
            due("event, call " + (k + 1), x.event(k), k + 1);
        }
        due("height, call 511", heightOrThrown(x, 510, 0, 0), 510);
        due("acts, call 512", x.count(6), 510);
        // answers are free from here on, but none may be a throw
        for (int k = 0; k < 3000; k++) {
            x.event(x.count(0) - 1);
            x.send(x.count(0) - 2);
            x.lose(x.count(0) - 1);
            x.home(x.count(0) - 2, x.count(0) - 1);
            x.image();
            x.add(k, 3);
            x.read();
        }
        yes("it still stands", x.count(0) > 0);
    }

    /** A state with something of each kind in it. */
    private static SplitClocks used() {
        SplitClocks x = new SplitClocks();
        x.fork(0);
        x.event(1);
        x.event(2);
        x.witness(3, 4, 1);
        x.lose(3);
        x.pack(4);
        x.add(0, 3);
        x.read();
        return x;
    }

    private static void newObject() {
        says(1, "As behind seed().");
        SplitClocks x = used();
        x.seed();
        text("a new object", Twins.all(new SplitClocks()), Twins.all(x));
        x = new SplitClocks();
        int[] told = {1, 1, 1, 0, NONE, NONE, 7, 0, 0, 0, 0};
        for (int what = 0; what < told.length; what++) {
            due("stamp(0, " + what + ")", x.stamp(0, what), told[what]);
        }
        due("count(0)", x.count(0), 1);
        no("undo()", x.undo());
        no("back()", x.back());
    }

    private static void seed() {
        says(2, "SEED.");
        SplitClocks x = used();
        x.seed();
        SplitClocks y = new SplitClocks();
        Twins.alikeTillTheFirst("seed()", x, y);
        x.seed();
        x.seed();
        Twins.alike("seed() again", x, y);
        due("fork", x.fork(0), 1);
        due("stamps of before do not come again", x.stamp(3, 0), NONE);
        seedLeavesNoNodes();
        says(2, "(The image stays.)");
        x = used();
        x.image();
        String then = Twins.counts(x);
        x.seed();
        due("count(0)", x.count(0), 1);
        x.event(0);
        yes("back()", x.back());
        text("counts", Twins.counts(x).replaceAll(" [0-9]+ [0-9]+$", ""), then.replaceAll(" [0-9]+ [0-9]+$", ""));
        shaped(x, 4, "[0 1] (0 0 1)");
        x.seed();
        x.seed();
        yes("back() again", x.back());
        due("count(0)", x.count(0), 5);
        x = new SplitClocks();
        x.seed();
        no("seed() makes none", x.back());
    }

    /** All nodes are used up four times over, within 512 calls: each time there is room for as many. */
    private static void seedLeavesNoNodes() {
        SplitClocks x = new SplitClocks();
        for (int round = 0; round < 4; round++) {
            x.seed();
            int s = x.event(deep(x, 60));
            int calls = 61;
            for (int made = s; calls < MOST_TRIES && made != NONE; calls++) {
                s = made;
                made = x.event(s);
            }
            due("calls till all is full", calls, 112);
            due("stamps", x.count(0), 172);
            due("height", heightOrThrown(x, s, 0, 60), 51);
            due("height beside", heightOrThrown(x, s, 1, 60), 0);
            due("nodes", x.stamp(s, 2), 121);
        }
    }

    private static void fork() {
        says(3, "FORK of a stamp that LIVES and owns something:");
        SplitClocks x = new SplitClocks();
        x.peek(0);
        due("one that owns nothing", x.fork(1), NONE);
        due("no such stamp", x.fork(2), NONE);
        due("no such stamp", x.fork(-1), NONE);
        due("it lives and owns all", x.fork(0), 2);
        due("it is spent", x.fork(0), NONE);
        x.lose(2);
        due("it is lost", x.fork(2), NONE);
        due("the other one", x.fork(3), 4);
        says(3, "the number of the left one; the right one's is next.");
        due("left at 10", ownsOrThrown(x, 4, 2, 2), 1);
        due("left at 11", ownsOrThrown(x, 4, 3, 2), 0);
        due("right at 10", ownsOrThrown(x, 5, 2, 2), 0);
        due("right at 11", ownsOrThrown(x, 5, 3, 2), 1);
        due("stamps", x.count(0), 6);
    }

    private static void event() {
        says(4, "EVENT of a stamp that LIVES and owns something: the new one's number.");
        SplitClocks x = new SplitClocks();
        x.peek(0);
        due("one that owns nothing", x.event(1), NONE);
        due("no such stamp", x.event(2), NONE);
        due("no such stamp", x.event(-1), NONE);
        due("it lives and owns all", x.event(0), 2);
        due("it is spent", x.event(0), NONE);
        due("the new one", x.event(2), 3);
        x.lose(3);
        due("it is lost", x.event(3), NONE);
        due("EVENTS", x.count(3), 2);
        shaped(x, 3, "1 2");
    }

    private static void join() {
        says(5, "JOIN of two stamps that LIVE, not of one with itself: the new one's number.");
        SplitClocks x = new SplitClocks();
        due("one with itself", x.join(0, 0), NONE);
        x.peek(0);
        due("one that owns nothing with itself", x.join(1, 1), NONE);
        x.fork(0);
        due("a spent one", x.join(0, 2), NONE);
        due("a spent one", x.join(2, 0), NONE);
        due("no such stamp", x.join(2, 4), NONE);
        due("no such stamp", x.join(4, 2), NONE);
        due("no such stamp", x.join(-1, 2), NONE);
        due("no such stamp", x.join(2, -1), NONE);
        due("one that owns nothing", x.join(2, 1), 4);
        due("two owners", x.join(3, 4), 5);
        x.peek(5);
        due("two that own nothing", x.join(1, 6), 7);
        x.lose(5);
        due("a lost one", x.join(5, 1), NONE);
        due("a lost one", x.join(1, 5), NONE);
        due("stamps", x.count(0), 8);
    }

    private static void peek() {
        says(6, "PEEK of a stamp that LIVES: the new one's number.");
        SplitClocks x = new SplitClocks();
        due("it lives", x.peek(0), 1);
        due("again", x.peek(0), 2);
        due("one that owns nothing", x.peek(1), 3);
        due("no such stamp", x.peek(4), NONE);
        due("no such stamp", x.peek(-1), NONE);
        x.event(0);
        due("it is spent", x.peek(0), NONE);
        x.lose(4);
        due("it is lost", x.peek(4), NONE);
        due("stamps", x.count(0), 5);
    }

    private static void send() {
        says(7, "EVENT, then PEEK of that: the number of the first one; the peeked one's is next.");
        SplitClocks x = new SplitClocks();
        due("send", x.send(0), 1);
        shaped(x, 1, "1 1");
        shaped(x, 2, "0 1");
        due("the peeked one is of the event", x.stamp(2, 4), 1);
        due("stamps", x.count(0), 3);
        due("one act", x.count(6), 1);
        due("it owns nothing", x.send(2), NONE);
        due("it is spent", x.send(0), NONE);
        due("no such stamp", x.send(3), NONE);
        due("no such stamp", x.send(-1), NONE);
        x.lose(1);
        due("it is lost", x.send(1), NONE);
        says(7, "Refused as a whole.");
        // one stamp alone would still fit
        x = new SplitClocks();
        int s = 0;
        for (int k = 0; k < 499; k++) {
            s = x.send(s);
        }
        due("stamps", x.count(0), 999);
        due("send", x.send(s), NONE);
        due("no event is left", x.count(0), 999);
        due("EVENTS", x.count(3), 499);
        due("it lives on", x.stamp(s, 0), 1);
        due("acts", x.count(6), 499);
        due("the event alone fits", x.event(s), 999);
        // the event's nodes alone would still fit
        x = new SplitClocks();
        s = x.event(deep(x, 60));
        int seen = x.peek(s);
        for (int k = 0; k < MOST_TRIES && x.count(4) + 122 + 242 <= 20000; k++) {
            x.peek(seen);
        }
        int nodes = x.count(4);
        due("send", x.send(s), NONE);
        due("nodes", x.count(4), nodes);
        due("it lives on", x.stamp(s, 0), 1);
        due("the event alone fits", x.event(s), x.count(0) - 1);
        due("nodes", x.count(4), nodes + 242);
    }

    private static void take() {
        says(8, "JOIN, then EVENT of that: the number of the last one.");
        SplitClocks x = new SplitClocks();
        x.fork(0);
        due("take", x.take(1, 2), 4);
        shaped(x, 3, "1 0");
        shaped(x, 4, "1 1");
        due("how the first was made", x.stamp(3, 3), 3);
        due("how the last was made", x.stamp(4, 3), 2);
        due("of what", x.stamp(4, 4), 3);
        due("one act", x.count(6), 2);
        x.peek(4);
        due("one of both owns something", x.take(5, 4), 7);
        says(8, "Refused as a whole (also if none of both owns anything).");
        x.peek(7);
        due("none of both", x.take(5, 8), NONE);
        due("one with itself", x.take(7, 7), NONE);
        due("a spent one", x.take(4, 7), NONE);
        due("a spent one", x.take(7, 4), NONE);
        due("no such stamp", x.take(7, 9), NONE);
        due("no such stamp", x.take(-1, 7), NONE);
        due("stamps", x.count(0), 9);
        due("acts", x.count(6), 5);
        x.lose(7);
        due("a lost one", x.take(7, 5), NONE);
        due("a lost one", x.take(5, 7), NONE);
        // one stamp alone would still fit
        x = new SplitClocks();
        int s = 0;
        for (int k = 0; k < 499; k++) {
            s = x.send(s);
        }
        due("take", x.take(s, 2), NONE);
        due("no join is left", x.count(0), 999);
        due("it lives on", x.stamp(s, 0), 1);
        due("acts", x.count(6), 499);
        due("the join alone fits", x.join(s, 2), 999);
        // the join's nodes alone would still fit
        x = new SplitClocks();
        s = x.event(deep(x, 60));
        int seen = x.peek(s);
        for (int k = 0; k < MOST_TRIES && x.count(4) + 122 + 242 <= 20000; k++) {
            x.peek(seen);
        }
        int nodes = x.count(4);
        due("take", x.take(s, seen), NONE);
        due("nodes", x.count(4), nodes);
        due("it lives on", x.stamp(s, 0), 1);
        due("the join alone fits", x.join(s, seen), x.count(0) - 1);
        due("nodes", x.count(4), nodes + 242);
    }

    private static void lose() {
        says(9, "A stamp that LIVES and owns something is lost: true.");
        SplitClocks x = new SplitClocks();
        x.peek(0);
        no("it owns nothing", x.lose(1));
        no("no such stamp", x.lose(2));
        no("no such stamp", x.lose(-1));
        x.event(0);
        no("it is spent", x.lose(0));
        yes("it lives and owns all", x.lose(2));
        due("lost", x.stamp(2, 9), 1);
        due("it lives no more", x.stamp(2, 0), 0);
        no("it is lost", x.lose(2));
        due("count(2)", x.count(2), 1);
        due("acts", x.count(6), 3);
        x.home(1, 2);
        due("home() is refused to one that knows less", x.count(2), 1);
    }

    private static void home() {
        says(10, "HOME: the new one's number.");
        SplitClocks x = new SplitClocks();
        x.fork(0);
        x.event(1);
        x.peek(3);
        x.lose(3);
        due("to one that owns nothing", x.home(4, 3), 5);
        shaped(x, 5, "[1 0] (0 1 0)");
        due("how it was made", x.stamp(5, 3), 5);
        due("of what", x.stamp(5, 4), 4);
        due("and what", x.stamp(5, 5), 3);
        due("no more lost", x.stamp(3, 9), 0);
        due("count(2)", x.count(2), 0);
        says(10, "Refused: s does not LIVE,");
        x = new SplitClocks();
        x.fork(0);
        x.fork(1);
        x.lose(3);
        x.lose(4);
        due("s is spent", x.home(0, 3), NONE);
        due("s is lost", x.home(4, 3), NONE);
        due("s is t", x.home(3, 3), NONE);
        due("no such stamp", x.home(5, 3), NONE);
        due("no such stamp", x.home(-1, 3), NONE);
        due("count(2)", x.count(2), 2);
        says(10, "t is not lost (or came home),");
        due("t lives", x.home(2, 2), NONE);
        due("t is spent", x.home(2, 1), NONE);
        due("no such stamp", x.home(2, 5), NONE);
        due("no such stamp", x.home(2, -1), NONE);
        due("it comes home", x.home(2, 3), 5);
        due("t came home", x.home(5, 3), NONE);
        yes("undo()", x.undo());
        due("t is lost again", x.home(2, 3), 5);
        due("the other one", x.home(5, 4), 6);
        shaped(x, 6, "1 0");
        says(10, "or does not LEAD to s.");
        x = new SplitClocks();
        x.fork(0);
        x.event(1);
        x.event(2);
        x.lose(3);
        due("t is beside s", x.home(4, 3), NONE);
        x = new SplitClocks();
        x.fork(0);
        x.event(1);
        x.lose(3);
        due("s leads to t", x.home(2, 3), NONE);
        x = new SplitClocks();
        x.fork(0);
        x.event(2);
        x.lose(1);
        due("t leads to s", x.home(3, 1), 4);
        x.fork(4);
        x.lose(5);
        due("both are like", x.home(6, 5), 7);
    }

    private static void undo() {
        says(11, "The act that was done last");
        SplitClocks x = new SplitClocks();
        x.fork(0);
        x.event(1);
        x.event(2);
        yes("undo()", x.undo());
        due("the last one alone", x.count(0), 4);
        shaped(x, 3, "[1 0] (0 1 0)");
        yes("undo()", x.undo());
        due("then the one ahead of it", x.count(0), 3);
        says(11, "(of those that answered, from fork() to home(), and read(), since seed(), back(), or the first one)");
        x.event(0);
        x.end(0);
        x.read();
        x.lose(0);
        x.join(1, 1);
        due("refused calls are none", x.count(6), 1);
        x.pack(1);
        x.end(3);
        x.add(1, 1);
        x.witness(1, 2, 0);
        x.relation(1, 2);
        x.image();
        due("nor are calls that do not act", x.count(6), 1);
        yes("undo()", x.undo());
        due("count(0)", x.count(0), 1);
        no("the first one is undone", x.undo());
        x.event(0);
        x.seed();
        no("since seed()", x.undo());
        x.event(0);
        yes("since seed()", x.undo());
        x.event(0);
        x.image();
        x.event(1);
        x.back();
        due("since back()", x.count(6), 0);
        no("since back()", x.undo());
        x.event(1);
        yes("since back()", x.undo());
        no("since back()", x.undo());
        due("count(0)", x.count(0), 2);
        x.event(1);
        x.image();
        yes("image() ends no act", x.undo());
        says(11, "false if there is none.");
        x = new SplitClocks();
        no("of a new object", x.undo());
        x.event(0);
        x.undo();
        no("behind the last one", x.undo());
        no("and again", x.undo());
        due("count(0)", x.count(0), 1);
        due("count(6)", x.count(6), 0);
    }

    private static void undone(String act, SplitClocks x, String before) {
        yes("undo() of " + act, x.undo());
        text("behind undo() of " + act, Twins.all(x), before);
    }

    private static void undoOfEach() {
        says(11, "is undone: its stamps are gone, what it SPENT LIVES, what it lost, brought home is as before: true;");
        SplitClocks x = new SplitClocks();
        x.event(0);
        due("an event", x.stamp(1, 10), 1);
        due("an event", x.unseen(1, 0), 1);
        x.undo();
        due("what is gone is in no history", x.stamp(0, 10), 0);
        due("nor unseen", x.unseen(0, 0), 0);
        due("nor counted", x.count(3), 0);
        x = new SplitClocks();
        x.fork(0);
        x.event(1);
        x.peek(3);
        x.fork(2);
        x.lose(5);
        load(x, "0001000");
        // 3 and 6 own something, 4 owns nothing and knows all, 5 is lost and knows nothing
        String before = Twins.all(x);
        due("fork", x.fork(3), 7);
        undone("fork", x, before);
        due("event", x.event(3), 7);
        undone("event", x, before);
        due("join", x.join(3, 6), 7);
        undone("join", x, before);
        due("join", x.join(4, 6), 7);
        undone("join with one that owns nothing", x, before);
        due("peek", x.peek(3), 7);
        undone("peek", x, before);
        due("send", x.send(3), 7);
        undone("send", x, before);
        due("take", x.take(6, 4), 8);
        undone("take", x, before);
        yes("lose", x.lose(3));
        undone("lose", x, before);
        due("home", x.home(6, 5), 7);
        undone("home", x, before);
        due("home", x.home(4, 5), 7);
        undone("home to one that owns nothing", x, before);
        due("read", x.read(), 7);
        undone("read", x, before);
        // what is undone can be done again, and other than before
        due("event", x.event(6), 7);
        shaped(x, 7, "[0 [0 1]] (0 0 (0 0 1))");
    }

    private static void image() {
        says(28, "All is kept as it is (THE ROW, FAULT, witness not): true.");
        SplitClocks x = used();
        String before = Twins.all(x);
        yes("image()", x.image());
        text("image() itself changes nothing", Twins.all(x), before);
        due("acts", x.count(6), 4);
        // the row, the fault and the witness stay what they are behind back()
        x.end(2);
        x.read();
        x.witness(3, 4, 0);
        x.home(4, 3);
        x.fork(4);
        yes("back()", x.back());
        due("count(0)", x.count(0), 5);
        due("lost", x.stamp(3, 9), 1);
        due("the row", x.count(5), 2);
        due("the fault", x.fault(), 2);
        isTold(x, 0, 1);
        due("no acts", x.count(6), 0);
        yes("image() of a new object", new SplitClocks().image());
    }

    private static String allButActs(SplitClocks x) {
        return Twins.all(x).replaceAll("^(counts( [0-9]+){6}) [0-9]+", "$1");
    }

    /** Between image() and back() each number comes to stand for another stamp. */
    private static void backFromOtherStamps() {
        SplitClocks x = used();
        x.join(4, x.peek(4));
        x.lose(6);
        x.image();
        String before = allButActs(x);
        x.end(0);
        x.seed();
        for (int k = 0, s = 0; k < 20; k++) {
            s = x.send(s);
        }
        yes("back()", x.back());
        load(x, row(used()));
        x.read();
        x.witness(3, 4, 1);
        text("all", allButActs(x), before);
        due("the next stamp's number", x.fork(x.home(5, 6)), 8);
        due("nodes", x.stamp(8, 1), 5);
        yes("undo()", x.undo());
        yes("undo()", x.undo());
        text("all", allButActs(x), before);
    }

    /** The smallest image: one stamp, that acts spent behind it. */
    private static void backToTheSeed() {
        SplitClocks x = new SplitClocks();
        x.image();
        x.fork(0);
        x.lose(1);
        x.event(2);
        yes("back() to a new object", x.back());
        Twins.alikeTillTheFirst("back() to a new object", x, imageOfNew());
        due("it lives", x.stamp(0, 0), 1);
        due("fork", x.fork(0), 1);
        yes("back() again", x.back());
        yes("lose", x.lose(0));
        yes("back() from its loss", x.back());
        due("it is not lost", x.stamp(0, 9), 0);
        due("event", x.event(0), 1);
        shaped(x, 1, "1 1");
    }

    private static SplitClocks imageOfNew() {
        SplitClocks x = new SplitClocks();
        x.image();
        return x;
    }

    private static void back() {
        says(29, "All is as it was at the latest image(): true;");
        SplitClocks x = new SplitClocks();
        x.image();
        x.fork(0);
        x.event(1);
        x.peek(3);
        x.lose(2);
        x.undo();
        x.undo();
        x.image();
        // the acts that led here are no more to be undone behind back(); all else is the same
        String before = allButActs(x);
        x.undo();
        x.undo();
        x.event(0);
        x.event(1);
        x.lose(2);
        yes("back()", x.back());
        text("all", allButActs(x), before);
        due("acts", x.count(6), 0);
        due("what lived lives", x.event(3), 4);
        due("and what was spent is", x.event(1), NONE);
        yes("back() again", x.back());
        text("all", allButActs(x), before);
        x.lose(2);
        x.image();
        x.home(3, 2);
        yes("back() to the latest one", x.back());
        due("lost", x.count(2), 1);
        due("count(0)", x.count(0), 4);
        backFromOtherStamps();
        backToTheSeed();
        says(29, "false without one.");
        x = new SplitClocks();
        no("of a new object", x.back());
        x.event(0);
        no("behind acts", x.back());
        x.seed();
        no("behind seed()", x.back());
        x.event(0);
        due("nothing changed", x.count(6), 1);
    }
}
