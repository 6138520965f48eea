/** Promises 12 to 27 and 30: what is asked, and the row. */
final class AskEdges extends Runs {
    private static final int[] NOBODY = {-1, 1000, Integer.MIN_VALUE, Integer.MAX_VALUE};
    private static Words words;

    static void run(Words w) {
        words = w;
        relation();
        unseen();
        unseenOfRead();
        meets();
        height();
        heightThrows();
        owns();
        ownsThrows();
        stamp();
        witness();
        witnessFalse();
        placeAndDigits();
        check();
        pack();
        bit();
        add();
        end();
        read();
        readRefused();
        fault();
        count();
    }

    private static void says(int promise, String quote) {
        words.says("Promise " + promise, quote);
    }

    /** Stamps 3 and 4 are beside one another; 1 and 2 lead to them. */
    private static SplitClocks beside() {
        SplitClocks x = new SplitClocks();
        x.fork(0);
        x.event(1);
        x.event(2);
        return x;
    }

    private static void relation() {
        says(12, "RELATION of a to b.");
        SplitClocks x = beside();
        due("like", x.relation(0, 1), 0);
        due("with itself", x.relation(3, 3), 0);
        due("a leads", x.relation(1, 3), 1);
        due("b leads", x.relation(3, 1), 2);
        due("beside", x.relation(3, 4), 3);
        for (int s : NOBODY) {
            due("relation(" + s + ", 3)", x.relation(s, 3), NONE);
            due("relation(3, " + s + ")", x.relation(3, s), NONE);
        }
        due("the first one that is not", x.relation(5, 3), NONE);
        due("the first one that is not", x.relation(3, 5), NONE);
    }

    private static void unseen() {
        says(13, "How many EVENTS of a's HISTORY are not in b's;");
        SplitClocks x = beside();
        due("none at all", x.unseen(0, 4), 0);
        due("with itself", x.unseen(3, 3), 0);
        due("one", x.unseen(3, 4), 1);
        x.event(3);
        due("two", x.unseen(5, 4), 2);
        due("one", x.unseen(4, 5), 1);
        x.peek(5);
        x.join(4, 6);
        due("of what was joined", x.unseen(7, 4), 2);
        due("the other way", x.unseen(4, 7), 0);
        due("of what the other has too", x.unseen(7, 5), 1);
        // the right half rises to 1 by an event that fills: it counts as one that grows does
        x = new SplitClocks();
        x.fork(0);
        x.send(1);
        x.take(2, 4);
        x.peek(6);
        x.join(3, 7);
        due("like", x.relation(6, 8), 0);
        due("unseen(6, 3)", x.unseen(6, 3), 1);
        due("unseen(8, 6)", x.unseen(8, 6), 0);
        due("unseen(6, 8)", x.unseen(6, 8), 0);
        for (int s : NOBODY) {
            due("unseen(" + s + ", 3)", x.unseen(s, 3), NONE);
            due("unseen(3, " + s + ")", x.unseen(3, s), NONE);
        }
        due("the first one that is not", x.unseen(9, 3), NONE);
        due("the first one that is not", x.unseen(3, 9), NONE);
    }

    private static void unseenOfRead() {
        says(13, "NONE also if one of them was READ, or made of one that was, by however many acts.");
        SplitClocks x = new SplitClocks();
        load(x, "0001000");
        x.read();
        due("one was read", x.unseen(1, 0), NONE);
        due("the other was read", x.unseen(0, 1), NONE);
        due("with itself", x.unseen(1, 1), NONE);
        due("none of them", x.unseen(0, 0), 0);
        x.fork(0);
        int s = x.join(2, 1);
        due("made of it", x.unseen(s, 3), NONE);
        due("the other way", x.unseen(3, s), NONE);
        for (int k = 0; k < 60; k++) {
            s = k % 3 == 0 ? x.event(s) : k % 3 == 1 ? x.fork(s) : x.send(s);
        }
        int peeked = x.count(0) - 1;
        due("by 61 acts", x.unseen(s, 3), NONE);
        due("by 62 acts", x.unseen(3, peeked), NONE);
        due("its history", x.stamp(peeked, 10), NONE);
        int taken = x.take(3, peeked);
        due("by take()", x.unseen(0, taken), NONE);
        due("of those ahead of it", x.unseen(3, 0), 0);
        due("the last join of take()", x.unseen(taken - 1, 0), NONE);
        x.peek(s);
        x.lose(s);
        int home = x.home(x.count(0) - 1, s);
        due("by home()", x.unseen(home, 0), NONE);
        for (int k = 0; k < MOST_TRIES && x.count(0) > 2; k++) {
            x.undo();
        }
        due("undone down to the row", x.event(0), 2);
        due("it is made of no such one", x.unseen(2, 0), 1);
    }

    private static void meets() {
        says(14, "Whether the OWN SHARES of two stamps have a point together.");
        SplitClocks x = middle();
        no("side by side", x.meets(1, 2));
        no("one between the other", x.meets(7, 8));
        no("the other way", x.meets(8, 7));
        yes("a part", x.meets(7, 4));
        yes("the whole", x.meets(7, 0));
        yes("with itself", x.meets(8, 8));
        x.peek(7);
        no("nothing with all", x.meets(9, 0));
        no("all with nothing", x.meets(0, 9));
        no("nothing with itself", x.meets(9, 9));
        for (int s : NOBODY) {
            no("meets(" + s + ", 0)", x.meets(s, 0));
            no("meets(0, " + s + ")", x.meets(0, s));
        }
        no("the first one that is not", x.meets(10, 0));
        no("the first one that is not", x.meets(0, 10));
        x = new SplitClocks();
        deep(x, 60);
        no("neighbours at 60 digits", x.meets(119, 120));
        yes("at 60 digits", x.meets(119, 1));
        yes("at 60 digits", x.meets(117, 120));
        no("at 60 digits", x.meets(119, 118));
        x = new SplitClocks();
        for (int k = 0; k < 60; k++) {
            x.fork(2 * k);
        }
        no("neighbours at the far end", x.meets(119, 120));
        yes("at the far end", x.meets(120, 118));
        yes("at the far end", x.meets(2, 119));
        no("at the far end", x.meets(117, 120));
    }

    private static void height() {
        says(15, "The height of a stamp's KNOWN at a PLACE's POINT.");
        SplitClocks x = new SplitClocks();
        int s = knower(x, "(1 (0 0 2) (0 1 0))");
        int[] want = {1, 3, 2, 1};
        for (int p = 0; p < 4; p++) {
            due("at " + p + " of 2", heightOrThrown(x, s, p, 2), want[p]);
            due("at the first of 60 in it", heightOrThrown(x, s, (long) p << 58, 60), want[p]);
            due("at the last of 60 in it", heightOrThrown(x, s, ((long) p + 1 << 58) - 1, 60), want[p]);
        }
        due("at all", heightOrThrown(x, s, 0, 0), 1);
        due("at the right half", heightOrThrown(x, s, 1, 1), 2);
    }

    private static void heightThrows() {
        says(15, "NoSuchElementException: no such stamp,");
        SplitClocks x = new SplitClocks();
        for (int s : NOBODY) {
            due("height(" + s + ", 0, 0)", heightOrThrown(x, s, 0, 0), THROWN);
        }
        due("the first one that is not", heightOrThrown(x, 1, 0, 0), THROWN);
        due("the last one that is", heightOrThrown(x, 0, 0, 0), 0);
        x.event(0);
        x.undo();
        due("one that is undone", heightOrThrown(x, 1, 0, 0), THROWN);
        says(15, "n is not 0 .. 60,");
        for (int n : new int[] {-1, 61, 62, 63, 64, -64, Integer.MIN_VALUE, Integer.MAX_VALUE}) {
            due("height(0, 0, " + n + ")", heightOrThrown(x, 0, 0, n), THROWN);
        }
        due("height(0, 0, 0)", heightOrThrown(x, 0, 0, 0), 0);
        due("height(0, 0, 60)", heightOrThrown(x, 0, 0, 60), 0);
        says(15, "or place not below 2^n,");
        for (int n = 0; n <= 60; n++) {
            due("height(0, 2^n - 1, n), n " + n, heightOrThrown(x, 0, (1L << n) - 1, n), 0);
            due("height(0, 2^n, n), n " + n, heightOrThrown(x, 0, 1L << n, n), THROWN);
            due("height(0, most, n), n " + n, heightOrThrown(x, 0, Long.MAX_VALUE, n), THROWN);
        }
        due("2^32 of 32 digits", heightOrThrown(x, 0, 1L << 32, 32), THROWN);
        says(15, "or below 0.");
        for (int n = 0; n <= 60; n++) {
            due("height(0, -1, n), n " + n, heightOrThrown(x, 0, -1, n), THROWN);
            due("height(0, least, n), n " + n, heightOrThrown(x, 0, Long.MIN_VALUE, n), THROWN);
        }
    }

    private static void owns() {
        says(16, "Whether a stamp's OWN has a PLACE's POINT (and what is right behind it).");
        SplitClocks x = new SplitClocks();
        x.fork(0);
        due("[1 0] has 0", ownsOrThrown(x, 1, 0, 1), 1);
        due("[1 0] ends at 1/2", ownsOrThrown(x, 1, 1, 1), 0);
        due("[0 1] begins at 1/2", ownsOrThrown(x, 2, 1, 1), 1);
        due("[0 1] has not 0", ownsOrThrown(x, 2, 0, 1), 0);
        due("[1 0] just ahead of 1/2", ownsOrThrown(x, 1, (1L << 59) - 1, 60), 1);
        due("[1 0] at 1/2 of 60 digits", ownsOrThrown(x, 1, 1L << 59, 60), 0);
        due("[0 1] just ahead of 1/2", ownsOrThrown(x, 2, (1L << 59) - 1, 60), 0);
        due("[0 1] at 1/2 of 60 digits", ownsOrThrown(x, 2, 1L << 59, 60), 1);
        due("[0 1] at its last place", ownsOrThrown(x, 2, (1L << 60) - 1, 60), 1);
        x.peek(1);
        due("nothing", ownsOrThrown(x, 3, 0, 0), 0);
        due("all", ownsOrThrown(x, 0, 0, 0), 1);
        due("a part that begins at the point", ownsOrThrown(x, 1, 0, 0), 1);
        due("a part that does not", ownsOrThrown(x, 2, 0, 0), 0);
    }

    private static void ownsThrows() {
        says(16, "Exceptions as height()'s.");
        SplitClocks x = new SplitClocks();
        for (int s : NOBODY) {
            due("owns(" + s + ", 0, 0)", ownsOrThrown(x, s, 0, 0), THROWN);
        }
        due("the first one that is not", ownsOrThrown(x, 1, 0, 0), THROWN);
        for (int n : new int[] {-1, 61, 62, 63, 64, -64, Integer.MIN_VALUE, Integer.MAX_VALUE}) {
            due("owns(0, 0, " + n + ")", ownsOrThrown(x, 0, 0, n), THROWN);
        }
        for (int n = 0; n <= 60; n++) {
            due("owns(0, 2^n - 1, n), n " + n, ownsOrThrown(x, 0, (1L << n) - 1, n), 1);
            due("owns(0, 2^n, n), n " + n, ownsOrThrown(x, 0, 1L << n, n), THROWN);
            due("owns(0, most, n), n " + n, ownsOrThrown(x, 0, Long.MAX_VALUE, n), THROWN);
            due("owns(0, -1, n), n " + n, ownsOrThrown(x, 0, -1, n), THROWN);
            due("owns(0, least, n), n " + n, ownsOrThrown(x, 0, Long.MIN_VALUE, n), THROWN);
        }
    }

    /** A stamp of each kind: 0 SEED, 1 2 FORK, 3 EVENT, 4 PEEK, 5 JOIN, 6 HOME, 7 READ. */
    private static SplitClocks eachKind() {
        SplitClocks x = new SplitClocks();
        x.fork(0);
        x.event(1);
        x.peek(3);
        x.join(2, 4);
        x.lose(3);
        x.home(5, 3);
        knower(x, "(2 (0 3 0) 1)");
        return x;
    }

    private static void told(SplitClocks x, int what, int... want) {
        for (int s = 0; s < want.length; s++) {
            due("stamp(" + s + ", " + what + ")", x.stamp(s, what), want[s]);
        }
    }

    private static void stamp() {
        SplitClocks x = eachKind();
        says(17, "Of a stamp, what 0: whether it LIVES (1, 0),");
        told(x, 0, 0, 0, 0, 0, 1, 0, 1, 1);
        says(17, "1: NODES of its OWN,");
        told(x, 1, 1, 3, 3, 3, 1, 3, 1, 1);
        says(17, "2: of its KNOWN,");
        told(x, 2, 1, 1, 1, 3, 3, 3, 3, 5);
        says(17, "3: how it was made: 0 SEED, 1 FORK, 2 EVENT, 3 JOIN, 4 PEEK, 5 HOME, 6 READ;");
        told(x, 3, 0, 1, 1, 2, 4, 3, 5, 6);
        says(17, "4, 5: of which stamps (NONE),");
        told(x, 4, NONE, 0, 0, 1, 3, 2, 5, NONE);
        told(x, 5, NONE, NONE, NONE, NONE, NONE, 4, 3, NONE);
        says(17, "6: its BITS,");
        told(x, 6, 7, 9, 9, 13, 11, 13, 11, 3 + 7 + 8 + 4);
        says(17, "7: LEAST,");
        told(x, 7, 0, 0, 0, 0, 0, 0, 0, 2);
        says(17, "8: GREATEST of its KNOWN,");
        told(x, 8, 0, 0, 0, 1, 1, 1, 1, 5);
        says(17, "9: whether it is lost,");
        told(x, 9, 0, 0, 0, 0, 0, 0, 0, 0);
        x.undo();
        x.undo();
        told(x, 9, 0, 0, 0, 1, 0, 0);
        says(17, "10: EVENTS of its HISTORY (NONE as of unseen()).");
        x = eachKind();
        told(x, 10, 0, 0, 0, 1, 1, 1, 1, NONE);
        x.join(6, 7);
        due("stamp(8, 10)", x.stamp(8, 10), NONE);
        says(17, "NONE for another what.");
        for (int what : new int[] {-1, 11, 12, -11, Integer.MIN_VALUE, Integer.MAX_VALUE}) {
            due("stamp(3, " + what + ")", x.stamp(3, what), NONE);
        }
        for (int s : new int[] {-1, 9, 1000, Integer.MIN_VALUE, Integer.MAX_VALUE}) {
            for (int what = 0; what <= 10; what++) {
                due("stamp(" + s + ", " + what + ")", x.stamp(s, what), NONE);
            }
        }
    }

    private static void witnessOf(String a, String b, int which, long place, int digits) {
        SplitClocks x = new SplitClocks();
        int s = knower(x, a);
        int t = knower(x, b);
        yes("witness of " + a + ", " + b + ", " + which, x.witness(s, t, which));
        isTold(x, place, digits);
    }

    private static void witness() {
        says(18, "For a, b beside one another, which 0: the first PLACE (from the left; as short as it can be)"
            + " where a is above b all over, and which is none of one such;");
        witnessOf("(0 1 0)", "(0 0 1)", 0, 0, 1);
        witnessOf("(0 0 1)", "(0 1 0)", 0, 1, 1);
        // the first one, be it shorter or longer than a later one
        witnessOf("(0 (0 0 1) 1)", "(0 (0 2 0) 0)", 0, 1, 2);
        witnessOf("(0 2 (0 1 0))", "(0 0 (0 0 1))", 0, 0, 1);
        witnessOf("(0 (0 (0 0 1) 0) 1)", "(0 (0 1 0) 0)", 0, 1, 1);
        witnessOf("(0 (0 (0 0 2) 0) 1)", "(0 (0 1 0) 0)", 0, 1, 3);
        // as short as it can be, over heights that are not the same all over
        witnessOf("(0 (1 0 1) 0)", "(0 0 1)", 0, 0, 1);
        witnessOf("(0 (1 (0 1 0) (0 0 1)) 0)", "(0 0 1)", 0, 0, 1);
        witnessOf("(0 (2 0 1) 0)", "(0 (0 1 0) 1)", 0, 0, 1);
        // not all over: as high as b at one point of the half
        witnessOf("(0 (0 1 0) 0)", "(0 0 1)", 0, 0, 2);
        witnessOf("(0 (1 0 1) 0)", "(1 0 2)", 0, 1, 2);
        SplitClocks x = new SplitClocks();
        int s = readOf(x, "000" + "0010".repeat(60) + "1001");
        int t = readOf(x, "000" + "0001".repeat(60) + "1001");
        yes("at 60 digits", x.witness(s, t, 0));
        isTold(x, 0, 60);
        says(18, "1: where b is above a.");
        witnessOf("(0 1 0)", "(0 0 1)", 1, 1, 1);
        witnessOf("(0 0 1)", "(0 1 0)", 1, 0, 1);
        witnessOf("(0 (0 2 0) 0)", "(0 (0 0 1) 1)", 1, 1, 2);
        yes("at 60 digits", x.witness(s, t, 1));
        isTold(x, (1L << 60) - 1, 60);
    }

    private static void witnessFalse() {
        says(18, "It is told by place(), digits(): true;");
        SplitClocks x = beside();
        yes("witness()", x.witness(3, 4, 1));
        isTold(x, 1, 1);
        says(18, "false (these stay) if they are not beside, or for another which.");
        no("a leads", x.witness(1, 3, 0));
        no("a leads", x.witness(1, 3, 1));
        no("b leads", x.witness(3, 1, 0));
        no("b leads", x.witness(3, 1, 1));
        no("like", x.witness(0, 1, 0));
        no("one with itself", x.witness(3, 3, 0));
        for (int which : new int[] {-1, 2, 3, Integer.MIN_VALUE, Integer.MAX_VALUE}) {
            no("which " + which, x.witness(3, 4, which));
        }
        for (int s : NOBODY) {
            no("no such stamp", x.witness(s, 4, 0));
            no("no such stamp", x.witness(3, s, 0));
        }
        no("the first one that is not", x.witness(5, 4, 0));
        isTold(x, 1, 1);
    }

    private static void placeAndDigits() {
        says(19, "The PLACE told by the latest witness();");
        SplitClocks x = beside();
        x.witness(3, 4, 0);
        x.witness(3, 4, 1);
        due("the latest one's", x.place(), 1);
        x.witness(3, 4, 0);
        due("the latest one's", x.place(), 0);
        x.witness(3, 4, 1);
        x.witness(1, 4, 0);
        due("not of one that was refused", x.place(), 1);
        x.undo();
        due("undo() leaves it", x.place(), 1);
        says(19, "0 ahead of any.");
        due("of a new object", new SplitClocks().place(), 0);
        x = beside();
        x.witness(1, 4, 0);
        due("ahead of one that answers true", x.place(), 0);
        says(20, "How many digits it has;");
        x.witness(3, 4, 0);
        due("one", x.digits(), 1);
        x.fork(3);
        x.event(5);
        x.witness(7, 4, 0);
        due("still one, as it is above all over", x.digits(), 1);
        x.event(6);
        x.witness(7, 8, 0);
        due("two", x.digits(), 2);
        says(20, "NONE ahead of any.");
        due("of a new object", new SplitClocks().digits(), NONE);
        x = beside();
        x.witness(1, 4, 0);
        due("ahead of one that answers true", x.digits(), NONE);
    }

    private static void check() {
        says(21, "Whether at POINTS of two PLACES a is above b (first), and b above a (second): 0;");
        SplitClocks x = beside();
        due("both", x.check(3, 4, 0, 1, 1, 1), 0);
        due("the other way", x.check(4, 3, 1, 1, 0, 1), 0);
        due("at points of longer ones", x.check(3, 4, (1L << 59) - 1, 60, 1L << 59, 60), 0);
        due("at the point of all", x.check(3, 4, 0, 0, 1, 1), 0);
        says(21, "1: it is not at the first one;");
        due("not at the first", x.check(3, 4, 1, 1, 1, 1), 1);
        due("at none of both", x.check(3, 4, 1, 1, 0, 1), 1);
        due("as high", x.check(3, 3, 0, 1, 1, 1), 1);
        due("as high at the first", x.check(3, 1, 1, 1, 0, 1), 1);
        says(21, "2: not at the second one.");
        due("not at the second", x.check(3, 4, 0, 1, 0, 1), 2);
        due("as high at the second", x.check(3, 1, 0, 1, 1, 1), 2);
        says(21, "NONE: no such stamp, PLACE.");
        for (int s : new int[] {-1, 5, 1000, Integer.MIN_VALUE, Integer.MAX_VALUE}) {
            due("check(" + s + ", 4, ..)", x.check(s, 4, 0, 1, 1, 1), NONE);
            due("check(3, " + s + ", ..)", x.check(3, s, 0, 1, 1, 1), NONE);
        }
        for (int n = 0; n <= 60; n++) {
            for (long p : new long[] {-1, 1L << n, Long.MIN_VALUE, Long.MAX_VALUE}) {
                due("first " + p + " of " + n, x.check(3, 4, p, n, 1, 1), NONE);
                due("second " + p + " of " + n, x.check(3, 4, 0, 1, p, n), NONE);
            }
            due("the last place", x.check(3, 4, (1L << n) - 1, n, 1, 1), n == 0 ? 0 : 1);
            due("the last place", x.check(3, 4, 0, 1, (1L << n) - 1, n), n == 0 ? 2 : 0);
        }
        for (int n : new int[] {-1, 61, 64, Integer.MIN_VALUE, Integer.MAX_VALUE}) {
            due("first of digits " + n, x.check(3, 4, 0, n, 1, 1), NONE);
            due("second of digits " + n, x.check(3, 4, 0, 1, 0, n), NONE);
        }
        due("also if it is not at the first one", x.check(3, 4, 1, 1, 2, 1), NONE);
    }

    private static void pack() {
        says(22, "THE ROW is the stamp's BITS: how many.");
        SplitClocks x = beside();
        x.add(-1, 64);
        due("pack(0)", x.pack(0), 7);
        text("what was there is gone", row(x), "0011000");
        due("pack(3)", x.pack(3), 13);
        text("the row", row(x), "10001" + "0010" + "1001");
        due("pack(1) of a spent one", x.pack(1), 9);
        text("the row", row(x), "10001" + "1000");
        for (int s : NOBODY) {
            due("pack(" + s + ")", x.pack(s), NONE);
        }
        due("the first one that is not", x.pack(5), NONE);
        text("the row stays", row(x), "10001" + "1000");
        due("no act", x.count(6), 3);
    }

    private static void bit() {
        says(23, "Bit i of THE ROW; NONE.");
        SplitClocks x = new SplitClocks();
        due("of no bits", x.bit(0), NONE);
        x.add(5, 3);
        due("bit(0)", x.bit(0), 1);
        due("bit(1)", x.bit(1), 0);
        due("bit(2)", x.bit(2), 1);
        due("bit(3)", x.bit(3), NONE);
        due("bit(-1)", x.bit(-1), NONE);
        due("bit(least)", x.bit(Integer.MIN_VALUE), NONE);
        due("bit(most)", x.bit(Integer.MAX_VALUE), NONE);
        x.end(1);
        due("bit(1) behind end(1)", x.bit(1), NONE);
    }

    private static void add() {
        says(24, "n bits (0 .. 64) of v, the highest of these n first, come behind THE ROW: how many it has;");
        SplitClocks x = new SplitClocks();
        due("no bits", x.add(-1, 0), 0);
        due("one", x.add(2, 1), 1);
        text("the lowest one", row(x), "0");
        due("two", x.add(6, 2), 3);
        text("behind", row(x), "010");
        due("64", x.add(Long.MIN_VALUE + 5, 64), 67);
        text("all of v", row(x), "010" + "1" + "0".repeat(60) + "101");
        due("63", x.add(Long.MIN_VALUE + 5, 63), 130);
        text("all but the highest", row(x).substring(67), "0".repeat(60) + "101");
        due("of -1", x.add(-1, 64), 194);
        text("64 bits", row(x).substring(130), "1".repeat(64));
        due("33", x.add(1L << 32, 33), 227);
        text("33 bits", row(x).substring(194), "1" + "0".repeat(32));
        for (int n : new int[] {-1, 65, -64, Integer.MIN_VALUE, Integer.MAX_VALUE}) {
            due("add(1, " + n + ")", x.add(1, n), NONE);
        }
        due("bits", x.count(5), 227);
        says(24, "refused also if it would have more than 600.");
        x = new SplitClocks();
        for (int k = 1; k <= 9; k++) {
            due("add", x.add(0, 64), 64 * k);
        }
        due("to 601", x.add(-1, 25), NONE);
        due("to 640", x.add(-1, 64), NONE);
        due("bits", x.count(5), 576);
        due("to 600", x.add(-1, 24), 600);
        due("to 601", x.add(1, 1), NONE);
        due("to 664", x.add(1, 64), NONE);
        due("no more", x.add(1, 0), 600);
        due("the last one", x.bit(599), 1);
        yes("end(599)", x.end(599));
        due("to 601", x.add(0, 2), NONE);
        due("to 600", x.add(0, 1), 600);
        due("the last one", x.bit(599), 0);
    }

    private static void end() {
        says(25, "THE ROW has its first n bits alone: true;");
        SplitClocks x = new SplitClocks();
        yes("none of none", x.end(0));
        x.add(0b110101, 6);
        yes("all", x.end(6));
        text("the row", row(x), "110101");
        yes("four", x.end(4));
        text("the row", row(x), "1101");
        x.add(0, 1);
        text("what comes behind it", row(x), "11010");
        yes("none", x.end(0));
        due("bits", x.count(5), 0);
        says(25, "false if it has not so many, or n is below 0.");
        no("one of none", x.end(1));
        x.add(5, 3);
        for (int n : new int[] {4, 600, 601, Integer.MAX_VALUE, -1, Integer.MIN_VALUE}) {
            no("end(" + n + ")", x.end(n));
        }
        text("the row stays", row(x), "101");
    }

    private static void read() {
        says(26, "THE ROW is READ: a stamp, its OWN 0 in place of what was READ (it LIVES, like one that was peeked): its number.");
        for (String share : new String[] {"0", "1", "[1 0]", "[[0 1] [1 0]]"}) {
            SplitClocks x = new SplitClocks();
            due("read()", readOf(x, shareBits(share) + heightBits("(1 0 2)")), 1);
            shaped(x, 1, "0 (1 0 2)");
            due("it lives", x.stamp(1, 0), 1);
            due("NODES of its OWN", x.stamp(1, 1), 1);
            due("NODES in all", x.count(4), 6);
            due("it has no event", x.event(1), NONE);
            no("it is not lost", x.lose(1));
            due("it can be joined", x.join(0, 1), 2);
            due("and lives on", x.stamp(1, 0), 1);
            due("an act", x.count(6), 2);
        }
        says(26, "(THE ROW stays.)");
        SplitClocks x = new SplitClocks();
        readOf(x, "0011001");
        text("behind a good one", row(x), "0011001");
        due("read() again", x.read(), 2);
        x.add(1, 1);
        due("a faulty one", x.read(), NONE);
        text("behind a faulty one", row(x), "00110011");
    }

    private static void readRefused() {
        says(26, "Refused: a FAULT; FULL.");
        SplitClocks x = new SplitClocks();
        due("a fault", readOf(x, "0010"), NONE);
        due("stamps", x.count(0), 1);
        due("acts", x.count(6), 0);
        int s = 0;
        load(x, "0011000");
        for (int k = 0; k < 499; k++) {
            s = x.send(s);
        }
        due("the last stamp", x.read(), 999);
        due("full", x.read(), NONE);
        due("fault() of full", x.fault(), NONE);
        due("stamps", x.count(0), 1000);
        x.add(0, 1);
        due("a fault when all is full", x.read(), NONE);
        due("fault()", x.fault(), 7);
        x.end(7);
        due("full", x.read(), NONE);
        due("fault() of full", x.fault(), NONE);
    }

    private static void fault() {
        says(27, "FAULT of the latest read();");
        SplitClocks x = new SplitClocks();
        x.read();
        due("of no bits", x.fault(), 0);
        x.add(0, 2);
        due("not of a row that was not read", x.fault(), 0);
        x.read();
        due("the latest", x.fault(), 2);
        says(27, "NONE if it had none (or FULL), or ahead of any.");
        due("ahead of any", new SplitClocks().fault(), NONE);
        x.end(0);
        x.add(8, 7);
        due("read()", x.read(), 1);
        due("it had none", x.fault(), NONE);
    }

    private static void count() {
        SplitClocks x = eachKind();
        x.fork(6);
        x.lose(8);
        x.end(5);
        says(30, "What 0: stamps made,");
        due("count(0)", x.count(0), 10);
        says(30, "1: that LIVE and own something,");
        due("count(1)", x.count(1), 1);
        says(30, "2: lost,");
        due("count(2)", x.count(2), 1);
        SplitClocks y = new SplitClocks();
        y.lose(0);
        due("count(2) of the seed alone", y.count(2), 1);
        says(30, "3: EVENTS,");
        due("count(3)", x.count(3), 1);
        says(30, "4: NODES in all,");
        int nodes = 0;
        for (int s = 0; s < 10; s++) {
            nodes += x.stamp(s, 1) + x.stamp(s, 2);
        }
        due("as the stamps tell", nodes, 2 + 4 + 4 + 6 + 4 + 6 + 4 + 6 + 6 + 6);
        due("count(4)", x.count(4), nodes);
        says(30, "5: bits of THE ROW,");
        due("count(5)", x.count(5), 5);
        says(30, "6: acts that can be undone.");
        due("count(6)", x.count(6), 9);
        x.undo();
        due("count(6)", x.count(6), 8);
        due("count(2)", x.count(2), 0);
        due("count(1)", x.count(1), 2);
        x.undo();
        due("count(0)", x.count(0), 8);
        due("count(1)", x.count(1), 1);
        says(30, "NONE for another what.");
        for (int what : new int[] {-1, 7, 8, -7, Integer.MIN_VALUE, Integer.MAX_VALUE}) {
            due("count(" + what + ")", x.count(what), NONE);
        }
    }
}
