/** Terms 1 and 2: the line, shares, heights, stamps and what is done with them. */
final class TermEdges extends Runs {
    private static Words words;

    static void run(Words w) {
        words = w;
        digitsOfPlaces();
        orderOfDigits();
        points();
        shares();
        sharesNeverWhole();
        heights();
        folded();
        leastAndGreatest();
        foldedForm();
        nodes();
        numbering();
        living();
        neverSpent();
        spentStay();
        seed();
        fork();
        eventFillsOrGrows();
        filled();
        grown();
        costs();
        joinPeekHome();
        history();
        relations();
    }

    private static void says1(String quote) {
        words.says("Term 1", quote);
    }

    private static void says2(String quote) {
        words.says("Term 2", quote);
    }

    private static void digitsOfPlaces() {
        says1("THE LINE goes from 0 to 1; a PLACE of n digits (0 .. 60) is a half of a half .. of it:");
        SplitClocks x = new SplitClocks();
        x.event(0);
        for (int n : new int[] {0, 1, 59, 60}) {
            due("height(1, 0, " + n + ")", heightOrThrown(x, 1, 0, n), 1);
            due("owns(1, 0, " + n + ")", ownsOrThrown(x, 1, 0, n), 1);
            due("check, first of digits " + n, x.check(1, 0, 0, n, 0, 0), 2);
            due("check, second of digits " + n, x.check(1, 0, 0, 0, 0, n), 2);
        }
        for (int n : new int[] {-1, 61, 62, 63, 64, 65, 124, -60, -64, Integer.MIN_VALUE, Integer.MAX_VALUE}) {
            due("height(1, 0, " + n + ")", heightOrThrown(x, 1, 0, n), THROWN);
            due("owns(1, 0, " + n + ")", ownsOrThrown(x, 1, 0, n), THROWN);
            due("check, first of digits " + n, x.check(1, 0, 0, n, 0, 0), NONE);
            due("check, second of digits " + n, x.check(1, 0, 0, 0, 0, n), NONE);
        }
    }

    private static void orderOfDigits() {
        says1("its digits from the first on, 0 the left half, 1 the right one; as a long, the last digit lowest.");
        SplitClocks x = new SplitClocks();
        int s = owner(x, "[0 [1 0]]", "0");
        for (int p = 0; p < 4; p++) {
            due("owns([0 [1 0]], " + p + ", 2)", ownsOrThrown(x, s, p, 2), p == 2 ? 1 : 0);
        }
        x = new SplitClocks();
        s = owner(x, "[[0 [0 1]] 0]", "0");
        for (int p = 0; p < 8; p++) {
            due("owns([[0 [0 1]] 0], " + p + ", 3)", ownsOrThrown(x, s, p, 3), p == 3 ? 1 : 0);
        }
        // 59 digits 0 and a last digit 1; a first digit 1 and 59 digits 0; 60 digits 1
        x = new SplitClocks();
        s = deep(x, 60) + 1;
        due("owns its place", ownsOrThrown(x, s, 1, 60), 1);
        due("not the one ahead", ownsOrThrown(x, s, 0, 60), 0);
        due("not the one behind", ownsOrThrown(x, s, 2, 60), 0);
        due("not the far half", ownsOrThrown(x, s, 1L << 59, 60), 0);
        x = new SplitClocks();
        s = readOf(x, "000" + "0001" + "0010".repeat(59) + "1001");
        due("height at the middle", heightOrThrown(x, s, 1L << 59, 60), 1);
        due("height ahead of it", heightOrThrown(x, s, (1L << 59) - 1, 60), 0);
        due("height behind it", heightOrThrown(x, s, (1L << 59) + 1, 60), 0);
        s = readOf(x, "000" + "0001".repeat(60) + "1001");
        due("height at the last place", heightOrThrown(x, s, (1L << 60) - 1, 60), 1);
        due("height ahead of it", heightOrThrown(x, s, (1L << 60) - 2, 60), 0);
    }

    private static void points() {
        says1("Its POINT is its left end.");
        SplitClocks x = new SplitClocks();
        int s = knower(x, "(0 (0 0 3) 5)");
        due("height of all", heightOrThrown(x, s, 0, 0), 0);
        due("height of 0", heightOrThrown(x, s, 0, 1), 0);
        due("height of 1", heightOrThrown(x, s, 1, 1), 5);
        due("height of 01", heightOrThrown(x, s, 1, 2), 3);
        s = knower(x, "(0 (0 2 0) 1)");
        due("height of all", heightOrThrown(x, s, 0, 0), 2);
        due("height of 0", heightOrThrown(x, s, 0, 1), 2);
        s = readOf(x, "000" + "0010".repeat(60) + "1001");
        due("height of all is that of its first 2^-60", heightOrThrown(x, s, 0, 0), 1);
        due("height of 1", heightOrThrown(x, s, 1, 1), 0);
        x = new SplitClocks();
        s = owner(x, "[[0 1] 1]", "0");
        due("owns all", ownsOrThrown(x, s, 0, 0), 0);
        due("owns 0", ownsOrThrown(x, s, 0, 1), 0);
        due("owns 1", ownsOrThrown(x, s, 1, 1), 1);
        x = new SplitClocks();
        s = owner(x, "[[1 0] 0]", "0");
        due("owns all, by its point", ownsOrThrown(x, s, 0, 0), 1);
        due("owns 0, by its point", ownsOrThrown(x, s, 0, 1), 1);
        due("owns 01", ownsOrThrown(x, s, 1, 2), 0);
    }

    private static void shares() {
        says1("A SHARE is 0 (nothing), 1 (all), or two SIDES [l r], SHARES of the left and the right half;");
        for (String share : new String[] {"0", "1", "[1 0]", "[0 1]", "[[0 1] 1]", "[1 [0 [1 0]]]", "[[0 1] [1 0]]"}) {
            SplitClocks x = new SplitClocks();
            shaped(x, owner(x, share, "0"), share + " 0");
        }
    }

    private static void sharesNeverWhole() {
        says1("never [0 0] or [1 1] (that is 0, 1).");
        SplitClocks x = new SplitClocks();
        x.fork(0);
        x.join(1, 2);
        shaped(x, 3, "1 0");
        due("nodes", x.stamp(3, 1), 1);
        x.fork(3);
        x.fork(4);
        x.join(7, 6);
        shaped(x, 8, "[1 0] 0");
        x.join(5, 8);
        shaped(x, 9, "1 0");
        x.peek(9);
        x.peek(9);
        x.join(10, 11);
        shaped(x, 12, "0 0");
        // 60 forks and all of it together again
        x = new SplitClocks();
        int s = deep(x, 60);
        int other = s + 1;
        for (int k = 0; k < 60; k++) {
            s = x.join(s, other);
            due("nodes of what came together", x.stamp(s, 1), 2 * (59 - k) + 1);
            other -= 2;
        }
        shaped(x, s, "1 0");
    }

    private static void heights() {
        says1("A HEIGHT is a number n from 0 on, or n with two SIDES (n l r): the HEIGHTS l, r stand on n.");
        SplitClocks x = new SplitClocks();
        due("a number, the least", heightOrThrown(x, 0, 0, 0), 0);
        int s = knower(x, "(2 (1 0 3) 0)");
        int[] want = {3, 6, 2, 2};
        for (int p = 0; p < 4; p++) {
            due("height at " + p, heightOrThrown(x, s, p, 2), want[p]);
        }
        // 60 levels that stand on one another
        s = readOf(x, "000" + "0100101".repeat(60) + "1001");
        due("the whole tower", heightOrThrown(x, s, (1L << 60) - 1, 60), 61);
        due("one level less", heightOrThrown(x, s, (1L << 60) - 2, 60), 60);
        due("its foot", heightOrThrown(x, s, 0, 60), 1);
    }

    private static void folded() {
        says1("FOLDED it is if one of l, r has LEAST 0, and they are not both numbers that are the same.");
        String[] good = {"(0 0 1)", "(0 1 0)", "(3 0 1)", "(0 (0 0 1) 2)", "(0 2 (0 1 0))", "(1 (4 1 0) (0 0 1))",
            "(0 (0 1 0) (0 1 0))"};
        for (String height : good) {
            SplitClocks x = new SplitClocks();
            due("read() of " + height, knower(x, height), 1);
            shaped(x, 1, "0 " + height);
        }
        for (String height : new String[] {"(0 1 2)", "(0 2 1)", "(0 1 1)", "(2 3 3)", "(0 (1 0 1) 1)", "(0 1 (1 1 0))"}) {
            faulty("000" + heightBits(height), 3);
        }
        faulty("000" + "00" + "00" + "1000" + "1000", 3);
    }

    private static void leastAndGreatest() {
        says1("LEAST, GREATEST of a number n: n;");
        SplitClocks x = new SplitClocks();
        for (int n : new int[] {0, 1, 28, (1 << 21) - 5}) {
            int s = knower(x, Integer.toString(n));
            due("LEAST of " + n, x.stamp(s, 7), n);
            due("GREATEST of " + n, x.stamp(s, 8), n);
        }
        says1("of (n l r): n and the lesser LEAST, the greater GREATEST of l, r.");
        String[] heights = {"(2 (0 1 0) (3 0 4))", "(1 (5 0 2) 0)", "(0 0 1)", "(7 1 0)"};
        int[] least = {2, 1, 0, 7};
        int[] greatest = {9, 8, 1, 8};
        for (int k = 0; k < heights.length; k++) {
            int s = knower(x, heights[k]);
            due("LEAST of " + heights[k], x.stamp(s, 7), least[k]);
            due("GREATEST of " + heights[k], x.stamp(s, 8), greatest[k]);
        }
        int s = readOf(x, "000" + "0001".repeat(60) + "1011");
        due("LEAST of 60 levels", x.stamp(s, 7), 0);
        due("GREATEST of 60 levels", x.stamp(s, 8), 3);
        s = readOf(x, "000" + "0010".repeat(60) + "1011");
        due("GREATEST of 60 levels, left", x.stamp(s, 8), 3);
    }

    /** Joins two that know these; what comes of it is the one folded form, and as high at each point. */
    private static void joined(String a, String b, String want) {
        SplitClocks x = new SplitClocks();
        int s = knower(x, a);
        int t = knower(x, b);
        int u = x.join(s, t);
        shaped(x, u, "0 " + want);
        for (int p = 0; p < 16; p++) {
            long high = Math.max(heightOrThrown(x, s, p, 4), heightOrThrown(x, t, p, 4));
            due("height at " + p + " of " + want, heightOrThrown(x, u, p, 4), high);
        }
        shaped(x, x.join(t, s), "0 " + want);
    }

    private static void foldedForm() {
        says1("Of any (n l r) there is just one FOLDED form, with the same height at each point:"
            + " with m the lesser LEAST of l and r: n + m over both, these less m;");
        joined("(0 3 0)", "(0 0 2)", "(2 1 0)");
        joined("(0 2 0)", "(0 0 3)", "(2 0 1)");
        joined("(1 3 0)", "(1 0 2)", "(3 1 0)");
        joined("(0 (0 1 0) 2)", "(0 (0 0 1) 0)", "(1 0 1)");
        joined("(0 (1 0 1) 0)", "(0 0 (1 1 0))", "(1 (0 0 1) (0 1 0))");
        joined("(0 (0 (0 2 0) 3) 0)", "(0 (0 (0 0 2) 0) 4)", "(2 (0 0 1) 2)");
        says1("and n + l, if both are numbers l.");
        joined("(0 2 0)", "(0 0 2)", "2");
        joined("(5 1 0)", "(5 0 1)", "6");
        joined("(1 (0 2 0) 0)", "(1 (0 0 2) 0)", "(1 2 0)");
        joined("(0 (0 1 0) 1)", "(0 (0 0 1) 0)", "1");
        joined("(0 (0 (0 1 0) 1) 0)", "(0 (0 (0 0 1) 0) 1)", "1");
    }

    private static void nodes() {
        says1("NODES of a SHARE, a HEIGHT: 1, and those of its two SIDES.");
        String[] shares = {"0", "1", "[1 0]", "[[0 1] 1]", "[[0 1] [1 0]]"};
        int[] ofShares = {1, 1, 3, 5, 7};
        String[] heights = {"0", "(0 1 0)", "(0 (0 1 0) 2)", "(3 (0 1 0) (1 0 2))", "9"};
        int[] ofHeights = {1, 3, 5, 7, 1};
        for (int k = 0; k < shares.length; k++) {
            SplitClocks x = new SplitClocks();
            int s = owner(x, shares[k], heights[k]);
            due("NODES of " + shares[k], x.stamp(s, 1), ofShares[k]);
            due("NODES of " + heights[k], x.stamp(s, 2), ofHeights[k]);
        }
        SplitClocks x = new SplitClocks();
        int s = x.event(deep(x, 60));
        // what folded on the left leaves none of its nodes ahead of the right side
        joined("(0 (0 1 0) (0 0 2))", "(0 (0 0 1) 0)", "(0 1 (0 0 2))");
        joined("(0 (0 (0 1 0) 1) (0 (0 0 3) 1))", "(0 (0 (0 0 1) 0) 0)", "(0 1 (0 (0 0 3) 1))");
        due("NODES of a share at 60 digits", x.stamp(s, 1), 121);
        due("NODES of a height at 60 digits", x.stamp(s, 2), 121);
    }

    private static void numbering() {
        says2("STAMPS are numbered as they are made, from 0 on: each has an OWN SHARE and a KNOWN HEIGHT, always FOLDED.");
        SplitClocks x = new SplitClocks();
        due("the first one's count", x.count(0), 1);
        due("stamp(0, 3)", x.stamp(0, 3), 0);
        due("stamp(-1, 3)", x.stamp(-1, 3), NONE);
        due("fork", x.fork(0), 1);
        due("event of the right one", x.event(2), 3);
        due("a refused one has no number", x.event(2), NONE);
        due("peek", x.peek(3), 4);
        due("join", x.join(1, 4), 5);
        due("send", x.send(5), 6);
        due("take", x.take(3, 7), 9);
        x.undo();
        due("what is undone has no number", x.take(3, 7), 9);
        x.lose(6);
        due("home", x.home(9, 6), 10);
        load(x, "0001000");
        due("read", x.read(), 11);
        due("count(0)", x.count(0), 12);
        due("stamp(12, 0)", x.stamp(12, 0), NONE);
        shaped(x, 5, "[1 0] (0 0 1)");
        shaped(x, 6, "[1 0] 1");
        shaped(x, 8, "[0 1] 1");
        shaped(x, 9, "[0 1] (1 0 1)");
        shaped(x, 10, "1 (1 0 1)");
    }

    private static void lives(SplitClocks x, int s, boolean want) {
        due("stamp(" + s + ", 0)", x.stamp(s, 0), want ? 1 : 0);
    }

    private static void living() {
        says2("One LIVES from when it is made till it is forked, has an event, is joined, retired or lost (SPENT then);");
        SplitClocks x = new SplitClocks();
        lives(x, 0, true);
        x.fork(0);
        lives(x, 0, false);
        lives(x, 1, true);
        lives(x, 2, true);
        x.event(1);
        lives(x, 1, false);
        lives(x, 3, true);
        x.join(2, 3);
        lives(x, 2, false);
        lives(x, 3, false);
        lives(x, 4, true);
        x.send(4);
        lives(x, 4, false);
        lives(x, 5, true);
        lives(x, 6, true);
        x.fork(5);
        x.take(7, 8);
        lives(x, 7, false);
        lives(x, 8, false);
        lives(x, 9, false);
        lives(x, 10, true);
        x.fork(10);
        x.lose(11);
        lives(x, 11, false);
        x.home(12, 11);
        lives(x, 11, false);
        lives(x, 12, false);
        lives(x, 13, true);
    }

    private static void neverSpent() {
        says2("but one whose OWN is 0 is never SPENT.");
        SplitClocks x = new SplitClocks();
        x.peek(0);
        x.peek(1);
        due("join of an owner with it", x.join(0, 1), 3);
        lives(x, 0, false);
        lives(x, 1, true);
        due("join with it first", x.join(1, 3), 4);
        lives(x, 1, true);
        due("join of two such", x.join(1, 2), 5);
        lives(x, 1, true);
        lives(x, 2, true);
        lives(x, 5, true);
        due("take with it", x.take(4, 1), 7);
        lives(x, 1, true);
        due("take with it first", x.take(1, 7), 9);
        lives(x, 1, true);
        x.peek(9);
        x.lose(9);
        due("home to it", x.home(10, 9), 11);
        lives(x, 10, true);
        due("peek of it", x.peek(10), 12);
        lives(x, 10, true);
        load(x, "0011000");
        due("read", x.read(), 13);
        x.join(11, 13);
        lives(x, 13, true);
        lives(x, 11, false);
    }

    private static void spentStay() {
        says2("All stamps that were made stay to be asked.");
        SplitClocks x = new SplitClocks();
        x.fork(0);
        x.event(1);
        x.event(2);
        x.event(3);
        x.join(5, 4);
        x.lose(6);
        // 0 to 5 are spent and 6 is lost
        due("count(1)", x.count(1), 0);
        due("relation(3, 4)", x.relation(3, 4), 3);
        due("relation(0, 6)", x.relation(0, 6), 1);
        due("unseen(5, 4)", x.unseen(5, 4), 2);
        due("unseen(6, 3)", x.unseen(6, 3), 2);
        yes("meets(0, 3)", x.meets(0, 3));
        no("meets(3, 4)", x.meets(3, 4));
        due("height(5, 0, 1)", heightOrThrown(x, 5, 0, 1), 2);
        due("owns(4, 1, 1)", ownsOrThrown(x, 4, 1, 1), 1);
        due("stamp(3, 2)", x.stamp(3, 2), 3);
        due("stamp(6, 10)", x.stamp(6, 10), 3);
        yes("witness(3, 4, 0)", x.witness(3, 4, 0));
        due("check(3, 4, ..)", x.check(3, 4, 0, 1, 1, 1), 0);
        shaped(x, 0, "1 0");
        shaped(x, 3, "[1 0] (0 1 0)");
        shaped(x, 6, "1 (1 1 0)");
    }

    private static void seed() {
        says2("SEED: all is gone; stamp 0: OWN 1, KNOWN 0.");
        SplitClocks x = new SplitClocks();
        x.fork(0);
        x.event(1);
        x.event(2);
        x.witness(3, 4, 1);
        x.lose(3);
        x.add(0, 2);
        x.read();
        due("fault() ahead of seed()", x.fault(), 2);
        x.seed();
        int[] counts = {1, 1, 0, 0, 2, 0, 0};
        for (int what = 0; what < counts.length; what++) {
            due("count(" + what + ")", x.count(what), counts[what]);
        }
        due("fault()", x.fault(), NONE);
        isTold(x, 0, NONE);
        no("undo()", x.undo());
        shaped(x, 0, "1 0");
        lives(x, 0, true);
        for (int s = 1; s < 5; s++) {
            due("stamp(" + s + ", 0)", x.stamp(s, 0), NONE);
        }
    }

    private static void splitsTo(String share, String left, String right) {
        SplitClocks x = new SplitClocks();
        int s = owner(x, share, "(1 0 1)");
        int next = x.count(0);
        int made = x.fork(s);
        due("fork of " + share, made, next);
        shaped(x, made, left + " (1 0 1)");
        shaped(x, made + 1, right + " (1 0 1)");
    }

    private static void fork() {
        says2("FORK: two stamps; the KNOWN of both is the old one's.");
        splitsTo("1", "[1 0]", "[0 1]");
        says2("SPLIT of its OWN: of 1 [1 0] and [0 1];");
        splitsTo("1", "[1 0]", "[0 1]");
        says2("of [0 r] [0 a] and [0 b], with a, b the SPLIT of r;");
        splitsTo("[0 1]", "[0 [1 0]]", "[0 [0 1]]");
        splitsTo("[0 [0 1]]", "[0 [0 [1 0]]]", "[0 [0 [0 1]]]");
        splitsTo("[0 [1 [1 0]]]", "[0 [1 0]]", "[0 [0 [1 0]]]");
        says2("of [l 0] [a 0] and [b 0];");
        splitsTo("[1 0]", "[[1 0] 0]", "[[0 1] 0]");
        splitsTo("[[1 0] 0]", "[[[1 0] 0] 0]", "[[[0 1] 0] 0]");
        splitsTo("[[0 1] 0]", "[[0 [1 0]] 0]", "[[0 [0 1]] 0]");
        splitsTo("[[[0 1] 1] 0]", "[[[0 1] 0] 0]", "[[0 1] 0]");
        says2("else of [l r] [l 0] and [0 r].");
        splitsTo("[1 [1 0]]", "[1 0]", "[0 [1 0]]");
        splitsTo("[[0 1] 1]", "[[0 1] 0]", "[0 1]");
        splitsTo("[[0 1] [1 0]]", "[[0 1] 0]", "[0 [1 0]]");
    }

    private static void eventMakes(String share, String known, String want) {
        SplitClocks x = new SplitClocks();
        int s = owner(x, share, known);
        shaped(x, s, share + " " + known);
        int next = x.count(0);
        int made = x.event(s);
        due("event of " + share + " " + known, made, next);
        shaped(x, made, share + " " + want);
    }

    private static void eventFillsOrGrows() {
        says2("EVENT: a stamp of the same OWN i, its KNOWN e FILLED, if that is another one, else GROWN.");
        // filled, and not grown on top of that
        eventMakes("1", "(0 1 0)", "1");
        eventMakes("1", "1", "2");
        eventMakes("[1 0]", "(0 0 1)", "1");
        eventMakes("[1 0]", "1", "(1 1 0)");
        // filled it is another one, though it has as many nodes
        eventMakes("[1 0]", "(0 0 (2 0 1))", "(2 0 (0 0 1))");
        eventMakes("[0 1]", "(0 (2 0 1) 0)", "(2 (0 0 1) 0)");
        eventMakes("[0 [0 1]]", "(2 (0 0 1) (0 3 0))", "(2 (0 0 1) 3)");
    }

    private static void filled() {
        says2("FILLED (i, e): i is 0: e.");
        eventMakes("[1 0]", "(0 0 (0 1 0))", "(0 1 (0 1 0))");
        eventMakes("[[0 1] 0]", "(0 (0 1 0) (0 4 0))", "(0 1 (0 4 0))");
        says2("i is 1: GREATEST of e.");
        eventMakes("1", "(1 (0 2 0) 1)", "3");
        eventMakes("1", "(0 (0 0 (2 1 0)) 1)", "3");
        says2("e is a number: e.");
        eventMakes("[1 0]", "3", "(3 1 0)");
        eventMakes("[1 [1 0]]", "(0 2 0)", "(0 3 0)");
        says2("Else e is (n l r): i is [1 b]: (n x y), y FILLED (b, r), x the greater of GREATEST of l and LEAST of y;");
        eventMakes("[1 0]", "(0 0 (1 0 1))", "(1 0 (0 0 1))");
        eventMakes("[1 0]", "(0 (0 1 0) 0)", "(0 1 0)");
        eventMakes("[1 0]", "(0 (0 3 0) 2)", "(2 1 0)");
        eventMakes("[1 [1 0]]", "(0 0 (0 0 2))", "2");
        eventMakes("[1 [0 1]]", "(0 0 (1 2 0))", "3");
        eventMakes("[1 [0 1]]", "(0 0 (0 1 0))", "1");
        says2("i is [a 1]: (n x y), x FILLED (a, l), y the greater of GREATEST of r and LEAST of x;");
        eventMakes("[0 1]", "(0 1 0)", "1");
        eventMakes("[0 1]", "(0 (1 0 1) 0)", "(1 (0 0 1) 0)");
        eventMakes("[0 1]", "(0 0 (0 1 0))", "(0 0 1)");
        eventMakes("[0 1]", "(0 2 (0 3 0))", "(2 0 1)");
        eventMakes("[[0 1] 1]", "(0 (0 2 0) 1)", "2");
        eventMakes("[[0 1] 1]", "(3 (0 1 0) 0)", "4");
        says2("else, i [a b], (n x y), x FILLED (a, l), y FILLED (b, r); FOLDED.");
        eventMakes("[[0 1] [1 0]]", "(0 (0 1 0) (0 0 1))", "1");
        eventMakes("[[0 1] [1 0]]", "(0 (0 1 0) 0)", "(0 1 0)");
        eventMakes("[[0 1] [1 0]]", "(0 0 (0 0 1))", "(0 0 1)");
        eventMakes("[[1 0] 0]", "(0 (0 0 1) 1)", "1");
        eventMakes("[0 [0 1]]", "(2 1 (0 1 0))", "3");
        eventMakes("[[0 1] [0 1]]", "(0 (0 2 0) (1 2 0))", "(2 0 1)");
        filledAtSixtyDigits();
    }

    /** At 60 digits, on the left and on the right: one place rises to what is known of the other half beside it. */
    private static void filledAtSixtyDigits() {
        for (int right = 0; right <= 1; right++) {
            SplitClocks x = new SplitClocks();
            int left = 0;
            int s = 0;
            for (int k = 0; k < 60; k++) {
                left = x.fork(s);
                s = left + right;
            }
            long here = right == 1 ? (1L << 60) - 1 : 0;
            int beside = x.event(x.event(2 * left + 1 - s));
            int known = x.join(s, x.peek(beside));
            due("nodes ahead of it", x.stamp(known, 2), 121);
            due("height ahead of it", heightOrThrown(x, known, here, 60), 0);
            int made = x.event(known);
            due("height", heightOrThrown(x, made, here, 60), 2);
            due("height beside", heightOrThrown(x, made, here ^ 1, 60), 2);
            due("height farther", heightOrThrown(x, made, here ^ 2, 60), 0);
            due("nodes of 59 digits", x.stamp(made, 2), 119);
        }
    }

    private static void grown() {
        says2("GROWN (i, e), at a COST: i is 1 and e a number: e + 1, COST 0.");
        eventMakes("1", "0", "1");
        eventMakes("1", Integer.toString((1 << 21) - 5), Integer.toString((1 << 21) - 4));
        eventMakes("[1 0]", "(0 3 0)", "(0 4 0)");
        says2("e another number e: as of (e 0 0), COST 1000 more.");
        eventMakes("[1 0]", "0", "(0 1 0)");
        eventMakes("[0 1]", "7", "(7 0 1)");
        eventMakes("[[1 0] 0]", "5", "(5 (0 1 0) 0)");
        eventMakes("[0 [0 [1 0]]]", "(0 0 2)", "(0 0 (2 0 (0 1 0)))");
        says2("e is (n l r): i is 1: can't be, as it would have been FILLED.");
        eventMakes("1", "(3 1 0)", "4");
        eventMakes("[[1 0] 1]", "(0 (0 (0 1 0) 0) 2)", "(0 (0 1 0) 2)");
        says2("i is [0 b]: (n l y), y GROWN (b, r), COST 1 more than that.");
        eventMakes("[0 1]", "(0 0 3)", "(0 0 4)");
        eventMakes("[0 [0 1]]", "(1 0 (2 0 1))", "(1 0 (2 0 2))");
        says2("[a 0]: (n x r), x GROWN (a, l), likewise.");
        eventMakes("[1 0]", "(2 1 0)", "(2 2 0)");
        eventMakes("[[1 0] 0]", "(1 (2 1 0) 0)", "(1 (2 2 0) 0)");
    }

    private static void costs() {
        says2("[a b]: the one of the two with less COST, of equal ones the right one. FOLDED.");
        eventMakes("[1 [0 1]]", "(0 1 (0 0 1))", "(0 2 (0 0 1))");
        eventMakes("[[0 1] 1]", "(0 (0 0 1) 1)", "(0 (0 0 1) 2)");
        eventMakes("[[0 1] [1 0]]", "(0 (0 0 1) (0 1 0))", "(0 (0 0 1) (0 2 0))");
        eventMakes("[[0 1] [1 0]]", "7", "(7 0 (0 1 0))");
        eventMakes("[[[1 0] [0 1]] 0]", "0", "(0 (0 0 (0 0 1)) 0)");
        eventMakes("[[0 1] [0 [0 1]]]", "0", "(0 (0 0 1) 0)");
        eventMakes("[[0 [0 1]] [0 1]]", "0", "(0 0 (0 0 1))");
        // sides that are there cost less than new ones
        eventMakes("[[1 0] [0 [0 1]]]", "(0 0 (0 0 (0 0 1)))", "(0 0 (0 0 (0 0 2)))");
        eventMakes("[[[1 0] 0] [1 0]]", "(0 (0 (0 1 0) 0) 0)", "(0 (0 (0 2 0) 0) 0)");
        // also where they go down to 60 digits, and new sides would be needed but once
        SplitClocks x = new SplitClocks();
        x.fork(0);
        int s = 2;
        for (int k = 0; k < 59; k++) {
            s = x.fork(s) + 1;
        }
        int known = x.event(s);
        int left = x.fork(1);
        int both = x.join(left, known);
        int made = x.event(both);
        due("height at the last place", heightOrThrown(x, made, (1L << 60) - 1, 60), 2);
        due("height at the first one", heightOrThrown(x, made, 0, 60), 0);
    }

    private static void joinPeekHome() {
        says2("JOIN: the OWN SHARES together; KNOWN the greater HEIGHT at each point.");
        joined("0", "0", "0");
        joined("3", "(1 4 0)", "(3 2 0)");
        joined("5", "(1 4 0)", "5");
        joined("4", "(1 4 0)", "(4 1 0)");
        joined("(0 (0 1 0) (0 0 2))", "1", "(1 0 (0 0 1))");
        joined("(2 (0 1 0) 0)", "(0 0 (1 0 4))", "(2 (0 1 0) (0 0 3))");
        SplitClocks x = middle();
        shaped(x, x.join(7, 8), "1 0");
        says2("PEEK: OWN 0, KNOWN as it is (the old one LIVES on).");
        x = new SplitClocks();
        int s = owner(x, "[0 1]", "(2 0 (0 1 0))");
        int seen = x.peek(s);
        shaped(x, seen, "0 (2 0 (0 1 0))");
        lives(x, s, true);
        lives(x, seen, true);
        says2("HOME: a lost stamp's OWN comes to one that LIVES: as JOIN of both.");
        x = new SplitClocks();
        x.fork(0);
        x.event(1);
        x.peek(3);
        x.join(2, 4);
        x.lose(3);
        due("home", x.home(5, 3), 6);
        shaped(x, 6, "1 (0 1 0)");
        due("its history", x.stamp(6, 10), 1);
        lives(x, 6, true);
    }

    private static void history() {
        says2("HISTORY of a stamp: the EVENTS that it has seen: those of all stamps it was made of, and of an EVENT itself.");
        SplitClocks x = new SplitClocks();
        due("of the seed", x.stamp(0, 10), 0);
        x.event(0);
        due("of an event itself", x.stamp(1, 10), 1);
        due("it is not the seed's", x.stamp(0, 10), 0);
        x.fork(1);
        due("through a fork", x.stamp(3, 10), 1);
        x.event(2);
        x.event(3);
        x.join(4, 5);
        due("of both, what they have together but once", x.stamp(6, 10), 3);
        x.peek(6);
        due("through a peek", x.stamp(7, 10), 3);
        x.fork(6);
        x.send(8);
        due("the peeked one of send()", x.stamp(11, 10), 4);
        x.take(9, 11);
        due("the joined one of take()", x.stamp(12, 10), 4);
        due("the last one of take()", x.stamp(13, 10), 5);
        x.lose(10);
        x.home(13, 10);
        due("through home()", x.stamp(14, 10), 5);
        due("unseen of what it was made of", x.unseen(4, 14), 0);
        due("unseen the other way", x.unseen(14, 4), 3);
    }

    private static void related(String a, String b, int want) {
        SplitClocks x = new SplitClocks();
        int s = knower(x, a);
        int t = knower(x, b);
        due("relation of " + a + " to " + b, x.relation(s, t), want);
        due("relation of " + b + " to " + a, x.relation(t, s), want == 1 ? 2 : want == 2 ? 1 : want);
    }

    private static void relations() {
        says2("a LEADS to b: a's height is at no point above b's.");
        SplitClocks x = new SplitClocks();
        x.fork(0);
        x.lose(1);
        due("as high everywhere", x.home(2, 1), 3);
        x = new SplitClocks();
        x.fork(0);
        x.event(1);
        x.lose(3);
        due("above at a point", x.home(2, 3), NONE);
        says2("RELATION of a to b: 0 both LEAD (like), 1 a LEADS alone, 2 b alone, 3 none (beside).");
        related("0", "0", 0);
        related("(0 (0 1 0) 2)", "(0 (0 1 0) 2)", 0);
        related("0", "1", 1);
        related("3", "2", 2);
        related("(0 1 0)", "1", 1);
        related("2", "(2 1 0)", 1);
        related("(1 0 1)", "2", 1);
        related("(0 1 0)", "(0 0 1)", 3);
        related("2", "(0 3 0)", 3);
        related("(1 0 (0 0 1))", "(0 (0 2 0) 3)", 3);
        // just one point of 60 digits makes the difference
        x = new SplitClocks();
        int s = readOf(x, "000" + "0001".repeat(60) + "1001");
        int t = readOf(x, "000" + "0001".repeat(60) + "1010");
        int u = readOf(x, "000" + "0010".repeat(60) + "1001");
        due("relation at 60 digits", x.relation(s, t), 1);
        due("relation at 60 digits", x.relation(t, s), 2);
        due("relation at 60 digits", x.relation(s, u), 3);
        due("relation at 60 digits", x.relation(0, s), 1);
    }
}
