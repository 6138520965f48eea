/** Each promise of the document, with answers worked out by hand from its words. */
public final class PromiseTest extends Runs {
    public static void main(String[] args) {
        CHECKS.name("promises");
        newObject();
        seed();
        forkSplits();
        forkRefused();
        eventFills();
        eventGrows();
        eventRefused();
        join();
        peek();
        send();
        take();
        lose();
        home();
        undo();
        undoTakesBackEach();
        relation();
        unseen();
        meets();
        height();
        owns();
        stamp();
        witness();
        check();
        pack();
        packTooLong();
        bitAddEnd();
        readGood();
        readNumbers();
        readShareFaults();
        readHeightFaults();
        readDeep();
        fault();
        imageAndBack();
        imageOfMuch();
        count();
        fullOfStamps();
        fullOfNodes();
        leavesNothing();
        knownExample();
        CHECKS.close();
    }

    private static void isNew(SplitClocks x) {
        int[] counts = {1, 1, 0, 0, 2, 0, 0, NONE};
        for (int what = 0; what < counts.length; what++) {
            due("count(" + what + ") of a new one", x.count(what), counts[what]);
        }
        int[] told = {1, 1, 1, 0, NONE, NONE, 7, 0, 0, 0, 0, NONE};
        for (int what = 0; what < told.length; what++) {
            due("stamp(0, " + what + ") of a new one", x.stamp(0, what), told[what]);
        }
        due("fault()", x.fault(), NONE);
        due("place()", x.place(), 0);
        due("digits()", x.digits(), NONE);
        due("bit(0)", x.bit(0), NONE);
        due("undo()", x.undo() ? 1 : 0, 0);
        due("height(0, 0, 60)", heightOrThrown(x, 0, 0, 60), 0);
        due("owns(0, 1, 1)", ownsOrThrown(x, 0, 1, 1), 1);
    }

    private static void newObject() {
        SplitClocks x = new SplitClocks();
        isNew(x);
        CHECKS.no("back() of a new one", x.back());
        shaped(x, 0, "1 0");
    }

    private static void seed() {
        SplitClocks x = new SplitClocks();
        x.fork(0);
        x.event(1);
        x.event(2);
        x.witness(3, 4, 1);
        due("digits()", x.digits(), 1);
        due("place()", x.place(), 1);
        x.pack(3);
        x.add(0, 1);
        x.read();
        due("fault()", x.fault(), 13);
        x.lose(3);
        x.image();
        x.peek(4);
        x.seed();
        isNew(x);
        CHECKS.no("the act ahead of seed() is not undone", x.undo());
        due("event(0)", x.event(0), 1);
        CHECKS.yes("the image stays", x.back());
        due("count(0)", x.count(0), 5);
        due("stamp(3, 9)", x.stamp(3, 9), 1);
        x.seed();
        CHECKS.yes("the image stays again", x.back());
        due("count(0)", x.count(0), 5);
    }

    private static void forkSplits() {
        SplitClocks x = new SplitClocks();
        x.event(0);
        due("fork(1)", x.fork(1), 2);
        shaped(x, 2, "[1 0] 1");
        shaped(x, 3, "[0 1] 1");
        due("stamp(1, 0)", x.stamp(1, 0), 0);
        due("stamp(2, 0)", x.stamp(2, 0), 1);
        due("stamp(3, 0)", x.stamp(3, 0), 1);
        for (int s = 2; s <= 3; s++) {
            due("stamp(" + s + ", 3)", x.stamp(s, 3), 1);
            due("stamp(" + s + ", 4)", x.stamp(s, 4), 1);
            due("stamp(" + s + ", 5)", x.stamp(s, 5), NONE);
        }
        due("fork(2)", x.fork(2), 4);
        shaped(x, 4, "[[1 0] 0] 1");
        shaped(x, 5, "[[0 1] 0] 1");
        due("fork(3)", x.fork(3), 6);
        shaped(x, 6, "[0 [1 0]] 1");
        shaped(x, 7, "[0 [0 1]] 1");
        due("fork(5)", x.fork(5), 8);
        shaped(x, 8, "[[0 [1 0]] 0] 1");
        shaped(x, 9, "[[0 [0 1]] 0] 1");

        x = middle();
        shaped(x, 7, "[[0 1] [1 0]] 0");
        shaped(x, 8, "[[1 0] [0 1]] 0");
        due("fork(7)", x.fork(7), 9);
        shaped(x, 9, "[[0 1] 0] 0");
        shaped(x, 10, "[0 [1 0]] 0");
        due("fork(8)", x.fork(8), 11);
        shaped(x, 11, "[[1 0] 0] 0");
        shaped(x, 12, "[0 [0 1]] 0");
    }

    private static void forkRefused() {
        SplitClocks x = new SplitClocks();
        due("fork(-1)", x.fork(-1), NONE);
        due("fork(1)", x.fork(1), NONE);
        due("fork(least)", x.fork(Integer.MIN_VALUE), NONE);
        due("fork(most)", x.fork(Integer.MAX_VALUE), NONE);
        x.fork(0);
        due("fork(0) of a spent one", x.fork(0), NONE);
        x.peek(1);
        due("fork(3) of one that owns nothing", x.fork(3), NONE);
        x.lose(2);
        due("fork(2) of a lost one", x.fork(2), NONE);
        due("count(0)", x.count(0), 4);
        due("count(6)", x.count(6), 3);

        x = new SplitClocks();
        int s = deep(x, 60);
        due("the sixtieth fork", s, 119);
        due("its nodes", x.stamp(s, 1), 121);
        int nodes = x.count(4);
        due("fork to 61 digits", x.fork(s), NONE);
        due("fork to 61 digits on the right", x.fork(s + 1), NONE);
        due("nothing changed", x.count(0), 121);
        due("no nodes more", x.count(4), nodes);
        due("no act more", x.count(6), 60);
        due("it lives on", x.stamp(s, 0), 1);
        due("fork of one less deep", x.fork(2), 121);
        due("event at 60 digits", x.event(s), 123);
        due("height there", heightOrThrown(x, 123, 0, 60), 1);
        due("height beside", heightOrThrown(x, 123, 1, 60), 0);
        due("nodes there", x.stamp(123, 2), 121);
    }

    private static void eventFills() {
        SplitClocks x = new SplitClocks();
        x.fork(0);
        x.fork(2);
        x.event(1);
        x.event(5);
        shaped(x, 6, "[1 0] (0 2 0)");
        // i is [1 b]: the left side rises to the least of the right one
        x.event(3);
        shaped(x, 7, "[0 [1 0]] (0 0 (0 1 0))");
        x.event(4);
        shaped(x, 8, "[0 [0 1]] (0 0 (0 0 1))");
        x.peek(6);
        due("take: known 2 on the left, 1 at 10", x.join(7, 9), 10);
        shaped(x, 10, "[0 [1 0]] (0 2 (0 1 0))");
        x.event(10);
        shaped(x, 11, "[0 [1 0]] (0 2 (0 2 0))");
        x.join(8, 11);
        shaped(x, 12, "[0 1] (1 1 (0 1 0))");
        // i is [0 1]: the right side becomes the greater of its greatest and the left one's least
        due("event(12)", x.event(12), 13);
        shaped(x, 13, "[0 1] 2");

        x = new SplitClocks();
        x.fork(0);
        x.event(2);
        x.peek(3);
        x.join(1, 4);
        shaped(x, 5, "[1 0] (0 0 1)");
        x.event(5);
        shaped(x, 6, "[1 0] 1");
        x.event(6);
        shaped(x, 7, "[1 0] (1 1 0)");

        // i is 1: the greatest
        x = new SplitClocks();
        x.fork(0);
        x.event(1);
        x.event(3);
        x.join(4, 2);
        shaped(x, 5, "1 (0 2 0)");
        x.event(5);
        shaped(x, 6, "1 2");
        x.event(6);
        shaped(x, 7, "1 3");
        eventFillsParts();
    }

    private static void eventFillsParts() {
        // i is [a b] with no 1: both sides by themselves
        SplitClocks x = middle();
        x.fork(8);
        x.event(9);
        x.event(10);
        shaped(x, 11, "[[1 0] 0] (0 (0 1 0) 0)");
        shaped(x, 12, "[0 [0 1]] (0 0 (0 0 1))");
        x.join(11, 12);
        x.peek(13);
        x.join(7, 14);
        shaped(x, 15, "[[0 1] [1 0]] (0 (0 1 0) (0 0 1))");
        x.event(15);
        shaped(x, 16, "[[0 1] [1 0]] 1");

        // [1 b] where the right side is filled first
        x = new SplitClocks();
        x.fork(0);
        x.fork(2);
        x.join(1, 3);
        shaped(x, 5, "[1 [1 0]] 0");
        x.event(4);
        x.event(6);
        x.peek(7);
        x.join(5, 8);
        shaped(x, 9, "[1 [1 0]] (0 0 (0 0 2))");
        x.event(9);
        shaped(x, 10, "[1 [1 0]] 2");

        // [a 1] likewise
        x = new SplitClocks();
        x.fork(0);
        x.fork(1);
        x.join(2, 4);
        shaped(x, 5, "[[0 1] 1] 0");
        x.event(3);
        x.peek(6);
        x.join(5, 7);
        shaped(x, 8, "[[0 1] 1] (0 (0 1 0) 0)");
        x.event(8);
        shaped(x, 9, "[[0 1] 1] 1");
    }

    private static void eventGrows() {
        SplitClocks x = new SplitClocks();
        due("event(0)", x.event(0), 1);
        shaped(x, 1, "1 1");
        due("stamp(0, 0)", x.stamp(0, 0), 0);
        due("stamp(1, 3)", x.stamp(1, 3), 2);
        due("stamp(1, 4)", x.stamp(1, 4), 0);
        due("stamp(1, 5)", x.stamp(1, 5), NONE);
        // of equal costs the right one
        x = middle();
        x.event(7);
        shaped(x, 9, "[[0 1] [1 0]] (0 0 (0 1 0))");
        // then it costs less where the sides are
        x.event(9);
        shaped(x, 10, "[[0 1] [1 0]] (0 0 (0 2 0))");
        // the less deep one costs less, on the left too
        x = new SplitClocks();
        x.fork(0);
        x.fork(2);
        x.fork(4);
        x.fork(1);
        x.join(7, 6);
        shaped(x, 9, "[[1 0] [0 [0 1]]] 0");
        x.event(9);
        shaped(x, 10, "[[1 0] [0 [0 1]]] (0 (0 1 0) 0)");
        // a deep one in sides that are there costs less than new sides
        x = new SplitClocks();
        x.fork(0);
        x.fork(2);
        x.fork(4);
        x.event(6);
        shaped(x, 7, "[0 [0 [0 1]]] (0 0 (0 0 (0 0 1)))");
        x.fork(1);
        x.join(8, 7);
        shaped(x, 10, "[[1 0] [0 [0 1]]] (0 0 (0 0 (0 0 1)))");
        x.event(10);
        shaped(x, 11, "[[1 0] [0 [0 1]]] (0 0 (0 0 (0 0 2)))");
        // where all sides are there, each level costs
        x = new SplitClocks();
        x.fork(0);
        x.fork(2);
        x.fork(4);
        x.event(6);
        x.fork(1);
        x.event(8);
        x.join(10, 7);
        shaped(x, 11, "[[1 0] [0 [0 1]]] (0 (0 1 0) (0 0 (0 0 1)))");
        x.event(11);
        shaped(x, 12, "[[1 0] [0 [0 1]]] (0 (0 2 0) (0 0 (0 0 1)))");
        // a number in a known tree grows by (e 0 0), and folds
        x = new SplitClocks();
        x.event(0);
        x.event(1);
        x.fork(2);
        x.event(3);
        shaped(x, 5, "[1 0] (2 1 0)");
        x.event(5);
        shaped(x, 6, "[1 0] (2 2 0)");
        x.event(4);
        x.join(7, 6);
        shaped(x, 8, "1 (3 1 0)");
    }

    private static void eventRefused() {
        SplitClocks x = new SplitClocks();
        due("event(-1)", x.event(-1), NONE);
        due("event(1)", x.event(1), NONE);
        x.event(0);
        due("event(0) of a spent one", x.event(0), NONE);
        x.peek(1);
        due("event(2) of one that owns nothing", x.event(2), NONE);
        due("count(3)", x.count(3), 1);
        x.lose(1);
        due("event(1) of a lost one", x.event(1), NONE);
        due("count(6)", x.count(6), 3);
    }

    private static void join() {
        SplitClocks x = new SplitClocks();
        x.fork(0);
        x.fork(1);
        x.event(3);
        x.event(2);
        x.event(6);
        due("join(7, 5)", x.join(7, 5), 8);
        shaped(x, 8, "[[1 0] 1] (0 (0 1 0) 2)");
        due("stamp(8, 3)", x.stamp(8, 3), 3);
        due("stamp(8, 4)", x.stamp(8, 4), 7);
        due("stamp(8, 5)", x.stamp(8, 5), 5);
        due("stamp(7, 0)", x.stamp(7, 0), 0);
        due("stamp(5, 0)", x.stamp(5, 0), 0);
        due("join(8, 8)", x.join(8, 8), NONE);
        due("join(8, 5) with a spent one", x.join(8, 5), NONE);
        due("join(5, 8) with a spent one", x.join(5, 8), NONE);
        due("join(8, 9)", x.join(8, 9), NONE);
        due("join(-1, 8)", x.join(-1, 8), NONE);
        due("join(8, 4)", x.join(8, 4), 9);
        shaped(x, 9, "1 (0 (0 1 0) 2)");
        // one that owns nothing is not spent
        x.peek(9);
        due("join(9, 10)", x.join(9, 10), 11);
        due("stamp(9, 0)", x.stamp(9, 0), 0);
        due("stamp(10, 0)", x.stamp(10, 0), 1);
        x.peek(11);
        due("join(10, 12) of two that own nothing", x.join(10, 12), 13);
        shaped(x, 13, "0 (0 (0 1 0) 2)");
        x.lose(11);
        due("join(11, 10) with a lost one", x.join(11, 10), NONE);
    }

    private static void peek() {
        SplitClocks x = new SplitClocks();
        x.event(0);
        due("peek(1)", x.peek(1), 2);
        shaped(x, 2, "0 1");
        due("stamp(1, 0)", x.stamp(1, 0), 1);
        due("stamp(2, 0)", x.stamp(2, 0), 1);
        due("stamp(2, 3)", x.stamp(2, 3), 4);
        due("stamp(2, 4)", x.stamp(2, 4), 1);
        due("stamp(2, 5)", x.stamp(2, 5), NONE);
        due("stamp(2, 10)", x.stamp(2, 10), 1);
        due("peek(2)", x.peek(2), 3);
        due("peek(0) of a spent one", x.peek(0), NONE);
        due("peek(4)", x.peek(4), NONE);
        due("peek(-1)", x.peek(-1), NONE);
        x.lose(1);
        due("peek(1) of a lost one", x.peek(1), NONE);
        due("count(1)", x.count(1), 0);
    }

    private static void send() {
        SplitClocks x = new SplitClocks();
        due("send(0)", x.send(0), 1);
        shaped(x, 1, "1 1");
        shaped(x, 2, "0 1");
        due("stamp(1, 3)", x.stamp(1, 3), 2);
        due("stamp(2, 3)", x.stamp(2, 3), 4);
        due("stamp(2, 4)", x.stamp(2, 4), 1);
        due("stamp(0, 0)", x.stamp(0, 0), 0);
        due("stamp(1, 0)", x.stamp(1, 0), 1);
        due("count(6)", x.count(6), 1);
        due("send(0) of a spent one", x.send(0), NONE);
        due("send(2) of one that owns nothing", x.send(2), NONE);
        due("send(3)", x.send(3), NONE);
        due("send(-1)", x.send(-1), NONE);
        due("count(0)", x.count(0), 3);
        CHECKS.yes("undo()", x.undo());
        due("count(0)", x.count(0), 1);
        due("stamp(0, 0)", x.stamp(0, 0), 1);
    }

    private static void take() {
        SplitClocks x = new SplitClocks();
        x.fork(0);
        x.send(1);
        due("take(2, 4)", x.take(2, 4), 6);
        shaped(x, 5, "[0 1] (0 1 0)");
        shaped(x, 6, "[0 1] 1");
        due("stamp(5, 3)", x.stamp(5, 3), 3);
        due("stamp(5, 4)", x.stamp(5, 4), 2);
        due("stamp(5, 5)", x.stamp(5, 5), 4);
        due("stamp(6, 3)", x.stamp(6, 3), 2);
        due("stamp(6, 4)", x.stamp(6, 4), 5);
        due("stamp(2, 0)", x.stamp(2, 0), 0);
        due("stamp(4, 0)", x.stamp(4, 0), 1);
        due("stamp(5, 0)", x.stamp(5, 0), 0);
        due("stamp(6, 0)", x.stamp(6, 0), 1);
        due("stamp(6, 10)", x.stamp(6, 10), 2);
        due("count(6)", x.count(6), 3);
        due("take(4, 6), the owner second", x.take(4, 6), 8);
        shaped(x, 8, "[0 1] (1 0 1)");
        due("take(8, 8)", x.take(8, 8), NONE);
        due("take(6, 8) with a spent one", x.take(6, 8), NONE);
        due("take(8, 9)", x.take(8, 9), NONE);
        due("take(-1, 8)", x.take(-1, 8), NONE);
        x.peek(8);
        due("take(4, 9) of two that own nothing", x.take(4, 9), NONE);
        due("count(0)", x.count(0), 10);
        due("take(3, 8)", x.take(3, 8), 11);
        shaped(x, 10, "1 (1 0 1)");
        shaped(x, 11, "1 2");
        CHECKS.yes("undo()", x.undo());
        due("count(0)", x.count(0), 10);
        due("stamp(3, 0)", x.stamp(3, 0), 1);
        due("stamp(8, 0)", x.stamp(8, 0), 1);
    }

    private static void lose() {
        SplitClocks x = new SplitClocks();
        CHECKS.no("lose(-1)", x.lose(-1));
        CHECKS.no("lose(1)", x.lose(1));
        x.fork(0);
        CHECKS.no("lose(0) of a spent one", x.lose(0));
        CHECKS.yes("lose(1)", x.lose(1));
        CHECKS.no("lose(1) again", x.lose(1));
        due("stamp(1, 0)", x.stamp(1, 0), 0);
        due("stamp(1, 9)", x.stamp(1, 9), 1);
        due("stamp(2, 9)", x.stamp(2, 9), 0);
        due("count(0)", x.count(0), 3);
        due("count(1)", x.count(1), 1);
        due("count(2)", x.count(2), 1);
        due("count(6)", x.count(6), 2);
        x.peek(2);
        CHECKS.no("lose(3) of one that owns nothing", x.lose(3));
        CHECKS.yes("lose(2)", x.lose(2));
        due("count(2)", x.count(2), 2);
        due("count(1)", x.count(1), 0);
        x = new SplitClocks();
        x.peek(0);
        CHECKS.yes("lose(0)", x.lose(0));
        due("count(2)", x.count(2), 1);
        due("home(1, 0)", x.home(1, 0), 2);
        due("event(2)", x.event(2), 3);
        CHECKS.yes("undo()", x.undo());
        CHECKS.yes("undo()", x.undo());
        due("stamp(0, 9)", x.stamp(0, 9), 1);
        CHECKS.yes("undo()", x.undo());
        due("stamp(0, 0)", x.stamp(0, 0), 1);
    }

    private static void home() {
        SplitClocks x = new SplitClocks();
        x.fork(0);
        x.send(1);
        due("home(2, 3) of one that lives", x.home(2, 3), NONE);
        x.lose(3);
        due("home(2, 3), it does not lead", x.home(2, 3), NONE);
        due("home(3, 3)", x.home(3, 3), NONE);
        due("home(1, 3) to a spent one", x.home(1, 3), NONE);
        due("home(5, 3)", x.home(5, 3), NONE);
        due("home(4, 5)", x.home(4, 5), NONE);
        due("home(4, -1)", x.home(4, -1), NONE);
        due("home(4, 1) of a spent one", x.home(4, 1), NONE);
        due("home(4, 3) to one that owns nothing", x.home(4, 3), 5);
        shaped(x, 5, "[1 0] (0 1 0)");
        due("stamp(5, 3)", x.stamp(5, 3), 5);
        due("stamp(5, 4)", x.stamp(5, 4), 4);
        due("stamp(5, 5)", x.stamp(5, 5), 3);
        due("stamp(3, 9)", x.stamp(3, 9), 0);
        due("stamp(3, 0)", x.stamp(3, 0), 0);
        due("stamp(4, 0)", x.stamp(4, 0), 1);
        due("count(2)", x.count(2), 0);
        due("home(4, 3), it came home", x.home(4, 3), NONE);
        x.take(2, 4);
        shaped(x, 7, "[0 1] 1");
        x.lose(5);
        due("home(7, 5)", x.home(7, 5), 8);
        shaped(x, 8, "1 1");
        due("stamp(7, 0)", x.stamp(7, 0), 0);
        due("stamp(8, 10)", x.stamp(8, 10), 2);
        due("count(1)", x.count(1), 1);
        x.fork(8);
        x.lose(9);
        due("home(10, 9), both alike", x.home(10, 9), 11);
        shaped(x, 11, "1 1");
    }

    private static void undo() {
        SplitClocks x = new SplitClocks();
        CHECKS.no("undo() of nothing", x.undo());
        x.fork(0);
        x.event(0);
        x.join(1, 1);
        due("refused calls are no acts", x.count(6), 1);
        x.relation(0, 1);
        x.pack(1);
        x.image();
        CHECKS.yes("undo()", x.undo());
        due("count(0)", x.count(0), 1);
        due("count(4)", x.count(4), 2);
        due("count(6)", x.count(6), 0);
        due("stamp(0, 0)", x.stamp(0, 0), 1);
        due("stamp(1, 0)", x.stamp(1, 0), NONE);
        due("the row stays", x.count(5), 9);
        CHECKS.no("undo() again", x.undo());
        due("event(0)", x.event(0), 1);
        shaped(x, 1, "1 1");
        x.back();
        CHECKS.no("undo() behind back()", x.undo());
        due("fork(2)", x.fork(2), 3);
        CHECKS.yes("undo()", x.undo());
        due("count(0)", x.count(0), 3);
        CHECKS.no("undo() no further than back()", x.undo());
    }

    private static void undoTakesBackEach() {
        SplitClocks x = new SplitClocks();
        x.fork(0);
        x.event(1);
        x.peek(3);
        x.join(2, 4);
        x.send(5);
        x.lose(3);
        x.home(6, 3);
        x.event(8);
        load(x, "0001000");
        due("read()", x.read(), 10);
        x.take(9, 10);
        due("count(0)", x.count(0), 13);
        due("count(6)", x.count(6), 10);
        CHECKS.yes("undo() of take", x.undo());
        due("count(0)", x.count(0), 11);
        due("stamp(9, 0)", x.stamp(9, 0), 1);
        due("stamp(10, 0)", x.stamp(10, 0), 1);
        CHECKS.yes("undo() of read", x.undo());
        due("count(0)", x.count(0), 10);
        CHECKS.yes("undo() of event", x.undo());
        due("stamp(8, 0)", x.stamp(8, 0), 1);
        due("count(3)", x.count(3), 2);
        CHECKS.yes("undo() of home", x.undo());
        due("count(0)", x.count(0), 8);
        due("stamp(3, 9)", x.stamp(3, 9), 1);
        due("stamp(3, 0)", x.stamp(3, 0), 0);
        due("stamp(6, 0)", x.stamp(6, 0), 1);
        CHECKS.yes("undo() of lose", x.undo());
        due("stamp(3, 9)", x.stamp(3, 9), 0);
        due("stamp(3, 0)", x.stamp(3, 0), 1);
        due("count(0)", x.count(0), 8);
        CHECKS.yes("undo() of send", x.undo());
        due("count(0)", x.count(0), 6);
        due("stamp(5, 0)", x.stamp(5, 0), 1);
        CHECKS.yes("undo() of join", x.undo());
        due("count(0)", x.count(0), 5);
        due("stamp(2, 0)", x.stamp(2, 0), 1);
        due("stamp(4, 0)", x.stamp(4, 0), 1);
        CHECKS.yes("undo() of peek", x.undo());
        due("count(0)", x.count(0), 4);
        CHECKS.yes("undo() of event", x.undo());
        due("stamp(1, 0)", x.stamp(1, 0), 1);
        CHECKS.yes("undo() of fork", x.undo());
        due("stamp(0, 0)", x.stamp(0, 0), 1);
        CHECKS.no("undo() of nothing", x.undo());
    }

    private static void relation() {
        SplitClocks x = new SplitClocks();
        x.fork(0);
        due("relation(0, 1)", x.relation(0, 1), 0);
        due("relation(1, 1)", x.relation(1, 1), 0);
        x.event(1);
        due("relation(0, 3)", x.relation(0, 3), 1);
        due("relation(3, 0)", x.relation(3, 0), 2);
        x.event(2);
        due("relation(3, 4)", x.relation(3, 4), 3);
        due("relation(4, 3)", x.relation(4, 3), 3);
        x.peek(4);
        x.join(3, 5);
        due("relation(4, 6)", x.relation(4, 6), 1);
        due("relation(6, 4)", x.relation(6, 4), 2);
        x.event(4);
        due("relation(7, 6)", x.relation(7, 6), 3);
        due("relation(8, 0)", x.relation(8, 0), NONE);
        due("relation(0, 8)", x.relation(0, 8), NONE);
        due("relation(-1, 0)", x.relation(-1, 0), NONE);
        due("relation(0, -1)", x.relation(0, -1), NONE);
    }

    private static void unseen() {
        SplitClocks x = new SplitClocks();
        x.event(0);
        x.fork(1);
        x.send(2);
        x.event(4);
        x.event(3);
        due("unseen(6, 7)", x.unseen(6, 7), 2);
        due("unseen(7, 6)", x.unseen(7, 6), 1);
        due("unseen(6, 6)", x.unseen(6, 6), 0);
        due("unseen(6, 0)", x.unseen(6, 0), 3);
        due("unseen(0, 6)", x.unseen(0, 6), 0);
        x.take(7, 5);
        due("unseen(6, 9)", x.unseen(6, 9), 1);
        due("unseen(9, 6)", x.unseen(9, 6), 2);
        due("unseen(8, 6)", x.unseen(8, 6), 1);
        due("stamp(9, 10)", x.stamp(9, 10), 4);
        x.lose(6);
        due("unseen of a lost one", x.unseen(6, 9), 1);
        due("unseen(10, 0)", x.unseen(10, 0), NONE);
        due("unseen(0, 10)", x.unseen(0, 10), NONE);
        due("unseen(-1, 0)", x.unseen(-1, 0), NONE);
        due("unseen(0, -1)", x.unseen(0, -1), NONE);
        x.pack(9);
        due("read()", x.read(), 10);
        due("unseen(10, 9)", x.unseen(10, 9), NONE);
        due("unseen(9, 10)", x.unseen(9, 10), NONE);
        x.take(9, 10);
        x.send(12);
        x.fork(13);
        for (int s = 10; s < 17; s++) {
            due("unseen(" + s + ", 0)", x.unseen(s, 0), NONE);
            due("unseen(0, " + s + ")", x.unseen(0, s), NONE);
            due("stamp(" + s + ", 10)", x.stamp(s, 10), NONE);
        }
        due("unseen(9, 0)", x.unseen(9, 0), 4);
        x.undo();
        x.undo();
        x.undo();
        x.undo();
        x.event(9);
        due("unseen(10, 9)", x.unseen(10, 9), 1);
    }

    private static void meets() {
        SplitClocks x = middle();
        CHECKS.no("meets(7, 8)", x.meets(7, 8));
        CHECKS.yes("meets(0, 8)", x.meets(0, 8));
        CHECKS.yes("meets(7, 1)", x.meets(7, 1));
        CHECKS.yes("meets(2, 7)", x.meets(2, 7));
        CHECKS.no("meets(1, 2)", x.meets(1, 2));
        CHECKS.no("meets(3, 7)", x.meets(3, 7));
        CHECKS.yes("meets(7, 7)", x.meets(7, 7));
        x.peek(7);
        CHECKS.no("meets(9, 0)", x.meets(9, 0));
        CHECKS.no("meets(0, 9)", x.meets(0, 9));
        CHECKS.no("meets(9, 9)", x.meets(9, 9));
        CHECKS.no("meets(0, 10)", x.meets(0, 10));
        CHECKS.no("meets(10, 0)", x.meets(10, 0));
        CHECKS.no("meets(-1, 0)", x.meets(-1, 0));
    }

    private static void height() {
        SplitClocks x = new SplitClocks();
        x.event(0);
        x.fork(1);
        x.fork(2);
        x.event(5);
        x.event(6);
        x.event(3);
        x.join(7, 8);
        shaped(x, 9, "[[0 1] 1] (1 (0 0 2) 1)");
        int[] want = {1, 3, 2, 2};
        for (int p = 0; p < 4; p++) {
            due("height(9, " + p + ", 2)", heightOrThrown(x, 9, p, 2), want[p]);
            due("height(9, " + p + ", 60)", heightOrThrown(x, 9, (long) p << 58, 60), want[p]);
            due("height(9, its last, 60)", heightOrThrown(x, 9, ((long) p << 58) + (1L << 58) - 1, 60), want[p]);
        }
        due("height(9, 0, 0)", heightOrThrown(x, 9, 0, 0), 1);
        due("height(9, 0, 1)", heightOrThrown(x, 9, 0, 1), 1);
        due("height(9, 1, 1)", heightOrThrown(x, 9, 1, 1), 2);
        due("height(10, 0, 0)", heightOrThrown(x, 10, 0, 0), THROWN);
        due("height(-1, 0, 0)", heightOrThrown(x, -1, 0, 0), THROWN);
        due("height(9, 1, 0)", heightOrThrown(x, 9, 1, 0), THROWN);
        due("height(9, 4, 2)", heightOrThrown(x, 9, 4, 2), THROWN);
        due("height(9, -1, 2)", heightOrThrown(x, 9, -1, 2), THROWN);
        due("height(9, 0, -1)", heightOrThrown(x, 9, 0, -1), THROWN);
        due("height(9, 0, 61)", heightOrThrown(x, 9, 0, 61), THROWN);
        due("height(9, 0, 64)", heightOrThrown(x, 9, 0, 64), THROWN);
        due("height(9, 2^60, 60)", heightOrThrown(x, 9, 1L << 60, 60), THROWN);
        due("height(9, least, 60)", heightOrThrown(x, 9, Long.MIN_VALUE, 60), THROWN);
    }

    private static void owns() {
        SplitClocks x = middle();
        int[] want = {0, 1, 1, 0};
        for (int p = 0; p < 4; p++) {
            due("owns(7, " + p + ", 2)", ownsOrThrown(x, 7, p, 2), want[p]);
            due("owns(8, " + p + ", 2)", ownsOrThrown(x, 8, p, 2), 1 - want[p]);
            due("owns(7, " + p + ", 60)", ownsOrThrown(x, 7, (long) p << 58, 60), want[p]);
            due("owns(7, its last, 60)", ownsOrThrown(x, 7, ((long) p << 58) + (1L << 58) - 1, 60), want[p]);
        }
        due("owns(7, 0, 0)", ownsOrThrown(x, 7, 0, 0), 0);
        due("owns(8, 0, 0)", ownsOrThrown(x, 8, 0, 0), 1);
        due("owns(7, 1, 1)", ownsOrThrown(x, 7, 1, 1), 1);
        due("owns(8, 1, 1)", ownsOrThrown(x, 8, 1, 1), 0);
        due("owns(9, 0, 0)", ownsOrThrown(x, 9, 0, 0), THROWN);
        due("owns(-1, 0, 0)", ownsOrThrown(x, -1, 0, 0), THROWN);
        due("owns(7, 1, 0)", ownsOrThrown(x, 7, 1, 0), THROWN);
        due("owns(7, 4, 2)", ownsOrThrown(x, 7, 4, 2), THROWN);
        due("owns(7, -1, 60)", ownsOrThrown(x, 7, -1, 60), THROWN);
        due("owns(7, 0, -1)", ownsOrThrown(x, 7, 0, -1), THROWN);
        due("owns(7, 0, 61)", ownsOrThrown(x, 7, 0, 61), THROWN);
    }

    private static void stamp() {
        SplitClocks x = new SplitClocks();
        x.event(0);
        x.fork(1);
        x.fork(2);
        x.event(5);
        x.event(6);
        x.event(3);
        x.join(7, 8);
        // [[0 1] 1] (1 (0 0 2) 1)
        int[] want = {1, 5, 5, 3, 7, 8, 29, 1, 3, 0, 4, NONE};
        for (int what = 0; what < want.length; what++) {
            due("stamp(9, " + what + ")", x.stamp(9, what), want[what]);
        }
        due("stamp(9, -1)", x.stamp(9, -1), NONE);
        due("stamp(10, 0)", x.stamp(10, 0), NONE);
        due("stamp(-1, 0)", x.stamp(-1, 0), NONE);
        due("stamp(7, 0)", x.stamp(7, 0), 0);
        load(x, "0001000");
        x.read();
        due("stamp(10, 3)", x.stamp(10, 3), 6);
        due("stamp(10, 4)", x.stamp(10, 4), NONE);
        due("stamp(10, 5)", x.stamp(10, 5), NONE);
        due("stamp(10, 10)", x.stamp(10, 10), NONE);
        due("stamp(10, 8)", x.stamp(10, 8), 0);
    }

    private static void witness() {
        SplitClocks x = middle();
        x.fork(7);
        x.fork(8);
        x.event(9);
        x.event(10);
        x.event(11);
        x.event(12);
        x.join(13, 14);
        x.join(15, 16);
        shaped(x, 17, "[[0 1] [1 0]] (0 (0 0 1) (0 1 0))");
        shaped(x, 18, "[[1 0] [0 1]] (0 (0 1 0) (0 0 1))");
        CHECKS.yes("witness(17, 18, 0)", x.witness(17, 18, 0));
        isTold(x, 1, 2);
        CHECKS.yes("witness(17, 18, 1)", x.witness(17, 18, 1));
        isTold(x, 0, 2);
        CHECKS.yes("witness(15, 14, 0)", x.witness(15, 14, 0));
        isTold(x, 0, 2);
        CHECKS.yes("witness(15, 14, 1)", x.witness(15, 14, 1));
        isTold(x, 2, 2);
        CHECKS.no("another which", x.witness(17, 18, 2));
        CHECKS.no("another which", x.witness(17, 18, -1));
        CHECKS.no("one leads", x.witness(13, 17, 0));
        CHECKS.no("one leads", x.witness(17, 13, 0));
        CHECKS.no("like", x.witness(17, 17, 1));
        CHECKS.no("no such stamp", x.witness(19, 17, 0));
        CHECKS.no("no such stamp", x.witness(17, -1, 0));
        isTold(x, 2, 2);
        witnessOverUnlikeHeights();
        witnessDeep();
    }

    private static void witnessOverUnlikeHeights() {
        // above all over 0, at heights that are not the same there
        SplitClocks x = new SplitClocks();
        x.fork(0);
        x.fork(1);
        x.event(3);
        x.event(4);
        x.event(6);
        x.join(5, 7);
        x.event(2);
        shaped(x, 8, "[1 0] (0 (1 0 1) 0)");
        shaped(x, 9, "[0 1] (0 0 1)");
        CHECKS.yes("witness(8, 9, 0)", x.witness(8, 9, 0));
        isTold(x, 0, 1);
        CHECKS.yes("witness(9, 8, 0)", x.witness(9, 8, 0));
        isTold(x, 1, 1);
        CHECKS.yes("witness(9, 8, 1)", x.witness(9, 8, 1));
        isTold(x, 0, 1);
        x.seed();
        isTold(x, 0, NONE);
    }

    private static void witnessDeep() {
        SplitClocks x = new SplitClocks();
        int s = deep(x, 60);
        x.event(s);
        x.event(s + 1);
        CHECKS.yes("witness at 60 digits", x.witness(s + 2, s + 3, 0));
        isTold(x, 0, 60);
        CHECKS.yes("witness at 60 digits", x.witness(s + 2, s + 3, 1));
        isTold(x, 1, 60);
        x.seed();
        s = 0;
        for (int k = 0; k < 60; k++) {
            s = x.fork(s) + 1;
        }
        x.event(s);
        x.event(s - 1);
        CHECKS.yes("witness at the last place", x.witness(s + 1, s + 2, 0));
        isTold(x, (1L << 60) - 1, 60);
        CHECKS.yes("witness beside it", x.witness(s + 1, s + 2, 1));
        isTold(x, (1L << 60) - 2, 60);
    }

    private static void check() {
        SplitClocks x = new SplitClocks();
        x.fork(0);
        x.event(1);
        x.event(2);
        due("check at both", x.check(3, 4, 0, 1, 1, 1), 0);
        due("check at 00, 11", x.check(3, 4, 0, 2, 3, 2), 0);
        due("check at all, 1", x.check(3, 4, 0, 0, 1, 1), 0);
        due("check at 1, 0", x.check(3, 4, 1, 1, 0, 1), 1);
        due("check at 1, 1", x.check(3, 4, 1, 1, 1, 1), 1);
        due("check at 0, 0", x.check(3, 4, 0, 1, 0, 1), 2);
        due("check the other way", x.check(4, 3, 1, 1, 0, 1), 0);
        due("check of one", x.check(3, 3, 0, 1, 1, 1), 1);
        due("no such place, first", x.check(3, 4, 2, 1, 1, 1), NONE);
        due("no such place, second", x.check(3, 4, 1, 1, 2, 1), NONE);
        due("no such place, below 0", x.check(3, 4, -1, 1, 1, 1), NONE);
        due("no such place, 61 digits", x.check(3, 4, 0, 61, 1, 1), NONE);
        due("no such place, -1 digits", x.check(3, 4, 0, 1, 0, -1), NONE);
        due("no such stamp", x.check(5, 4, 0, 1, 1, 1), NONE);
        due("no such stamp", x.check(3, -1, 0, 1, 1, 1), NONE);
        x.event(3);
        x.peek(4);
        x.join(5, 6);
        due("it is not above at the second", x.check(7, 4, 0, 1, 1, 1), 2);
        due("check with 60 digits", x.check(3, 4, 0, 60, 1L << 59, 60), 0);
    }

    private static void pack() {
        SplitClocks x = new SplitClocks();
        text("of a new one", packed(x, 0), "0011000");
        x.fork(0);
        text("[1 0] 0", packed(x, 1), "100011000");
        text("[0 1] 0", packed(x, 2), "010011000");
        x.fork(2);
        x.join(1, 3);
        text("[1 [1 0]] 0", packed(x, 5), "11001100011000");
        x.event(4);
        text("[0 [0 1]] (0 0 (0 0 1))", packed(x, 6), "0101001" + "0001" + "0001" + "1001");
        x.peek(6);
        text("0 (0 0 (0 0 1))", packed(x, 7), "000" + "0001" + "0001" + "1001");
        due("pack(7)", x.pack(7), 15);
        due("stamp(7, 6)", x.stamp(7, 6), 15);
        due("pack(8)", x.pack(8), NONE);
        due("pack(-1)", x.pack(-1), NONE);
        due("the row stays", x.count(5), 15);
        due("pack of a spent one", x.pack(0), 7);
        packNumbers();
    }

    private static void packNumbers() {
        String[] want = {
            "000", "001", "010", "011", "10000", "10001", "10010", "10011", "10100", "10101", "10110", "10111",
            "1100000", "1100001",
        };
        SplitClocks x = new SplitClocks();
        for (int n = 0; n < want.length; n++) {
            text("1 " + n, packed(x, n), "0011" + want[n]);
            x.event(n);
        }
        // 28 is the first number by 5 bits
        for (int n = want.length; n < 28; n++) {
            x.event(n);
        }
        text("1 27", packed(x, 27), "0011" + "1101111");
        text("1 28", packed(x, 28), "0011" + "111000000");
        x.fork(28);
        x.event(29);
        text("[1 0] (28 1 0)", packed(x, 31), "10001" + "01" + "111000000" + "10" + "1001");
        x.event(30);
        x.event(32);
        x.join(31, 33);
        text("1 (29 0 1)", packed(x, 34), "001" + "01" + "111000001" + "01" + "1001");
        x.fork(34);
        x.event(35);
        text("[1 0] 30", packed(x, 37), "10001" + "1" + "111000010");
    }

    /** A height of 60 levels, so that with the share 0 it has just 600 bits. */
    private static String longest() {
        StringBuilder s = new StringBuilder("000");
        for (int k = 0; k < 44; k++) {
            s.append("01").append("1100001").append("01");
        }
        for (int k = 0; k < 15; k++) {
            s.append("01").append("011").append("01");
        }
        return s.append("0001").append("1001").toString();
    }

    private static void packTooLong() {
        SplitClocks x = new SplitClocks();
        String bits = longest();
        due("bits", bits.length(), 600);
        due("read() of 600 bits", readOf(x, bits), 1);
        due("pack(1)", x.pack(1), 600);
        text("what was read", row(x), bits);
        due("stamp(1, 6)", x.stamp(1, 6), 600);
        due("join(0, 1)", x.join(0, 1), 2);
        due("pack(2) of share 1", x.pack(2), 600);
        x.fork(2);
        due("stamp(3, 6)", x.stamp(3, 6), 602);
        x.pack(0);
        due("pack(3)", x.pack(3), NONE);
        due("the row stays", x.count(5), 7);
        due("bit(3)", x.bit(3), 1);
    }

    private static void bitAddEnd() {
        SplitClocks x = new SplitClocks();
        due("add(5, 3)", x.add(5, 3), 3);
        text("row", row(x), "101");
        due("add(1, 0)", x.add(1, 0), 3);
        due("add(-2, 4)", x.add(-2, 4), 7);
        text("row", row(x), "1011110");
        due("add(8, 3), the lowest three", x.add(8, 3), 10);
        text("row", row(x), "1011110000");
        due("bit(-1)", x.bit(-1), NONE);
        due("bit(10)", x.bit(10), NONE);
        due("bit(most)", x.bit(Integer.MAX_VALUE), NONE);
        due("bit(9)", x.bit(9), 0);
        due("bit(0)", x.bit(0), 1);
        CHECKS.no("end(11)", x.end(11));
        CHECKS.no("end(-1)", x.end(-1));
        CHECKS.no("end(least)", x.end(Integer.MIN_VALUE));
        due("count(5)", x.count(5), 10);
        CHECKS.yes("end(10)", x.end(10));
        due("count(5)", x.count(5), 10);
        CHECKS.yes("end(2)", x.end(2));
        due("bit(2)", x.bit(2), NONE);
        text("row", row(x), "10");
        due("add(0, 1)", x.add(0, 1), 3);
        text("row", row(x), "100");
        x.end(0);
        due("add(least + 1, 64)", x.add(Long.MIN_VALUE + 1, 64), 64);
        text("row", row(x), "1" + "0".repeat(62) + "1");
        due("add(0, 65)", x.add(0, 65), NONE);
        due("add(0, -1)", x.add(0, -1), NONE);
        due("add(0, most)", x.add(0, Integer.MAX_VALUE), NONE);
        due("add(0, least)", x.add(0, Integer.MIN_VALUE), NONE);
        for (int k = 2; k <= 9; k++) {
            due("add(-1, 64)", x.add(-1, 64), 64 * k);
        }
        due("add(0, 25), to 601", x.add(0, 25), NONE);
        due("add(-1, 64), to 640", x.add(-1, 64), NONE);
        due("count(5)", x.count(5), 576);
        due("add(1, 24)", x.add(1, 24), 600);
        due("add(1, 1)", x.add(1, 1), NONE);
        due("add(1, 0)", x.add(1, 0), 600);
        due("bit(599)", x.bit(599), 1);
        due("bit(598)", x.bit(598), 0);
        due("bit(600)", x.bit(600), NONE);
        due("bits are no acts", x.count(6), 0);
    }

    private static void readGood() {
        SplitClocks x = new SplitClocks();
        due("read()", readOf(x, "11" + "01001" + "10001" + "0001" + "1001"), 1);
        shaped(x, 1, "0 (0 0 1)");
        due("stamp(1, 0)", x.stamp(1, 0), 1);
        due("stamp(1, 1)", x.stamp(1, 1), 1);
        due("stamp(1, 3)", x.stamp(1, 3), 6);
        due("count(0)", x.count(0), 2);
        due("count(1)", x.count(1), 1);
        due("count(3)", x.count(3), 0);
        due("count(4)", x.count(4), 6);
        due("count(6)", x.count(6), 1);
        due("event(1) of what owns nothing", x.event(1), NONE);
        due("peek(1)", x.peek(1), 2);
        due("join(0, 1)", x.join(0, 1), 3);
        shaped(x, 3, "1 (0 0 1)");
        due("stamp(1, 0)", x.stamp(1, 0), 1);
        // [[1 0] 1] and [[0 1] [1 0]] are shares that can be; both sides of 00 are told
        due("read()", readOf(x, "11" + "10001" + "001" + "1000"), 4);
        due("read()", readOf(x, "11" + "01001" + "10001" + "1000"), 5);
        due("read()", readOf(x, "001" + "00" + "00" + "0001" + "1001" + "1001"), 6);
        shaped(x, 6, "0 (0 (0 0 1) 1)");
        due("read()", readOf(x, "001" + "01" + "001" + "00" + "1010" + "00" + "10" + "1011"), 7);
        shaped(x, 7, "0 (1 2 (0 3 0))");
        due("the row stays", x.count(5), 22);
        due("read() again", x.read(), 8);
        due("relation(7, 8)", x.relation(7, 8), 0);
        CHECKS.yes("undo()", x.undo());
        due("count(0)", x.count(0), 8);
    }

    private static void readNumbers() {
        SplitClocks x = new SplitClocks();
        due("read() of 3", readOf(x, "000" + "1" + "011"), 1);
        due("its number", x.stamp(1, 8), 3);
        due("read() of 4", readOf(x, "000" + "1" + "10" + "000"), 2);
        due("its number", x.stamp(2, 8), 4);
        due("read() of 12", readOf(x, "000" + "1" + "110" + "0000"), 3);
        due("its number", x.stamp(3, 8), 12);
        due("read() of the greatest", readOf(x, "000" + "1" + "1".repeat(18) + "0" + "1".repeat(20)), 4);
        due("its number", x.stamp(4, 8), (1 << 21) - 5);
        due("its bits", x.stamp(4, 6), 43);
        due("join(0, 4)", x.join(0, 4), 5);
        due("event(5)", x.event(5), 6);
        due("a number by 21 bits", x.stamp(6, 8), (1 << 21) - 4);
        text("its bits", packed(x, 6), "0011" + "1".repeat(19) + "0" + "0".repeat(21));
        due("read() of it", x.read(), NONE);
        due("fault()", x.fault(), 22);
        faulty("000" + "1" + "1".repeat(19), 22);
        faulty("000" + "1" + "1".repeat(18), 22);
        faulty("000" + "1" + "1".repeat(18) + "0" + "1".repeat(19), 42);
        faulty("000" + "01" + "1".repeat(19) + "000", 23);
    }

    private static void readShareFaults() {
        faulty("", 0);
        faulty("0", 1);
        faulty("1", 1);
        faulty("00", 2);
        faulty("001", 3);
        faulty("01", 2);
        faulty("11001", 5);
        faulty("11001" + "10001", 10);
        faulty("01000" + "1000", 0);
        faulty("10000" + "1000", 0);
        faulty("11000001" + "1000", 0);
        faulty("11001000" + "1000", 0);
        faulty("11000000" + "1000", 0);
        faulty("11001001" + "1000", 0);
        faulty("0101000" + "1000", 2);
        faulty("10" + "11001001" + "1000", 2);
        faulty("11" + "001" + "10000", 5);
        faulty("11" + "001" + "1100", 9);
        // the fault inside comes up ahead of the one outside
        faulty("11" + "000" + "01000" + "1000", 5);
        faulty("11" + "000" + "01001" + "1000", 0);
        faulty("11" + "000" + "01", 7);
    }

    private static void readHeightFaults() {
        faulty("000" + "1", 4);
        faulty("000" + "10", 5);
        faulty("000" + "100", 6);
        faulty("000" + "0", 4);
        faulty("000" + "00", 5);
        faulty("000" + "001", 6);
        faulty("000" + "00" + "11", 6);
        faulty("000" + "01" + "001" + "11" + "1000", 9);
        faulty("000" + "01" + "000" + "11" + "1000", 9);
        // n of 0 by NUMBER
        faulty("000" + "01" + "000" + "01" + "1001", 3);
        // a side that is 0 by 00, 01, 10
        faulty("000" + "00" + "00" + "1000" + "1001", 3);
        faulty("000" + "00" + "00" + "1001" + "1000", 3);
        faulty("000" + "00" + "01" + "1000", 3);
        faulty("000" + "00" + "10" + "1000", 3);
        // not folded: no side with least 0; both the same number
        faulty("000" + "00" + "00" + "1001" + "1010", 3);
        faulty("000" + "00" + "00" + "1001" + "1001", 3);
        faulty("000" + "00" + "00" + "01" + "001" + "01" + "1001" + "1010", 3);
        faulty("000" + "00" + "01" + "00" + "01" + "1000", 7);
        faulty("000" + "00" + "01" + "00" + "00" + "1001" + "1010", 7);
        // ahead of what is outside
        faulty("000" + "01" + "000" + "01" + "00" + "01" + "1000", 10);
        faulty("000" + "01" + "000" + "01" + "1", 11);
        // behind the whole stamp
        faulty("0001000" + "0", 7);
        faulty("0001000" + "1", 7);
        faulty("0001000" + "0001000", 7);
        faulty("000" + "0001" + "1001" + "1", 11);
        // the first of two
        faulty("01000" + "00" + "11", 0);
    }

    private static void readDeep() {
        SplitClocks x = new SplitClocks();
        String share = "01".repeat(60);
        due("a share at 60 digits", readOf(x, share + "001" + "1000"), 1);
        due("a height at 60 digits", readOf(x, "000" + "0001".repeat(60) + "1001"), 2);
        due("its nodes", x.stamp(2, 2), 121);
        due("there", heightOrThrown(x, 2, (1L << 60) - 1, 60), 1);
        due("beside", heightOrThrown(x, 2, (1L << 60) - 2, 60), 0);
        due("a height at 60 digits, left", readOf(x, "000" + "0010".repeat(60) + "1001"), 3);
        due("there", heightOrThrown(x, 3, 0, 0), 1);
        due("beside", heightOrThrown(x, 3, 1, 60), 0);
        faulty(share + "01" + "001" + "1000", 122);
        faulty(share + "01", 122);
        faulty(share + "10" + "000" + "1000", 122);
        faulty(share + "000" + "1000", 118);
        faulty("10".repeat(61) + "001" + "1000", 122);
        faulty("000" + "0001".repeat(61) + "1001", 247);
        faulty("000" + "0010".repeat(61) + "1001", 247);
        faulty("000" + "0001".repeat(61), 247);
        faulty("000" + "0001".repeat(60) + "1000", 239);
        faulty("000" + "0001".repeat(60) + "0000", 247);
    }

    private static void fault() {
        SplitClocks x = new SplitClocks();
        due("ahead of any", x.fault(), NONE);
        x.read();
        due("fault()", x.fault(), 0);
        load(x, "000");
        due("fault() of the latest read()", x.fault(), 0);
        x.read();
        due("fault()", x.fault(), 3);
        x.add(8, 4);
        due("read()", x.read(), 1);
        due("fault()", x.fault(), NONE);
        x.add(0, 1);
        x.read();
        due("fault()", x.fault(), 7);
        x.image();
        x.end(7);
        x.read();
        due("fault()", x.fault(), NONE);
        x.back();
        due("back() leaves it", x.fault(), NONE);
        x.end(6);
        x.read();
        x.back();
        due("back() leaves it", x.fault(), 6);
        CHECKS.no("undo()", x.undo());
        x.fork(0);
        x.undo();
        due("undo() leaves it", x.fault(), 6);
    }

    private static void imageAndBack() {
        SplitClocks x = new SplitClocks();
        CHECKS.no("back() without one", x.back());
        x.fork(0);
        x.event(1);
        CHECKS.no("back() without one", x.back());
        due("a refused back() changes nothing", x.count(6), 2);
        x.event(2);
        x.lose(3);
        CHECKS.yes("image()", x.image());
        due("image() is no act and ends none", x.count(6), 4);
        CHECKS.yes("witness()", x.witness(3, 4, 1));
        x.pack(4);
        x.undo();
        x.undo();
        x.undo();
        x.fork(1);
        x.fork(3);
        x.fork(5);
        CHECKS.yes("back()", x.back());
        due("count(0)", x.count(0), 5);
        due("count(1)", x.count(1), 1);
        due("count(2)", x.count(2), 1);
        due("count(3)", x.count(3), 2);
        due("count(6)", x.count(6), 0);
        due("the row stays", x.count(5), 13);
        isTold(x, 1, 1);
        shaped(x, 3, "[1 0] (0 1 0)");
        shaped(x, 4, "[0 1] (0 0 1)");
        due("stamp(3, 9)", x.stamp(3, 9), 1);
        due("stamp(1, 0)", x.stamp(1, 0), 0);
        due("unseen(3, 4)", x.unseen(3, 4), 1);
        x.event(4);
        CHECKS.yes("back() again", x.back());
        due("count(0)", x.count(0), 5);
        due("stamp(4, 0)", x.stamp(4, 0), 1);
        x.event(4);
        x.image();
        x.event(5);
        CHECKS.yes("back() to the latest", x.back());
        due("count(0)", x.count(0), 6);
        due("count(4)", x.count(4), 2 + 4 + 4 + 6 + 6 + 6);
    }

    /** An image of many stamps and deep trees; all that came between is gone, and acts go on from there. */
    private static void imageOfMuch() {
        SplitClocks x = new SplitClocks();
        int s = x.event(deep(x, 40));
        int stamps = x.count(0);
        int nodes = x.count(4);
        String first = packed(x, s);
        x.image();
        x.seed();
        s = 0;
        for (int k = 0; k < 50; k++) {
            s = x.send(s);
        }
        x.back();
        s = stamps - 1;
        due("count(0)", x.count(0), stamps);
        due("count(4)", x.count(4), nodes);
        text("its bits", packed(x, s), first);
        for (int k = 1; k < stamps - 1; k++) {
            due("stamp(" + k + ", 4)", x.stamp(k, 4), k <= 2 ? 0 : (k - 1) / 2 * 2 - 1);
            due("stamp(" + k + ", 5)", x.stamp(k, 5), NONE);
            due("stamp(" + k + ", 3)", x.stamp(k, 3), 1);
        }
        due("event", x.event(s), stamps);
        due("height", heightOrThrown(x, stamps, 0, 0), 2);
        due("event", x.event(2), stamps + 1);
        x.undo();
        x.undo();
        due("fork", x.fork(s), stamps);
        text("its bits", packed(x, s), first);
        shaped(x, 2, "[0 1] 0");
        due("take", x.take(stamps, stamps + 1), stamps + 3);
        due("height", heightOrThrown(x, stamps + 3, 0, 40), 2);
        due("unseen", x.unseen(stamps + 3, s), 1);
    }

    private static void count() {
        SplitClocks x = new SplitClocks();
        x.fork(0);
        x.send(1);
        x.take(2, 4);
        x.lose(3);
        x.pack(6);
        int[] want = {7, 1, 1, 2, 2 + 4 + 4 + 6 + 4 + 6 + 4, 9, 4, NONE};
        for (int what = 0; what < want.length; what++) {
            due("count(" + what + ")", x.count(what), want[what]);
        }
        due("count(-1)", x.count(-1), NONE);
        due("count(most)", x.count(Integer.MAX_VALUE), NONE);
        x.peek(6);
        due("what owns nothing is not counted", x.count(1), 1);
        x.undo();
        x.undo();
        due("count(2)", x.count(2), 0);
        due("count(1)", x.count(1), 2);
        x.undo();
        due("count(3)", x.count(3), 1);
        due("count(4)", x.count(4), 20);
        due("count(6)", x.count(6), 2);
    }

    private static void fullOfStamps() {
        SplitClocks x = new SplitClocks();
        int s = 0;
        for (int k = 0; k < 499; k++) {
            s = x.send(s);
        }
        due("count(0)", x.count(0), 999);
        due("send of two more", x.send(s), NONE);
        due("fork of two more", x.fork(s), NONE);
        due("take of two more", x.take(s, 2), NONE);
        due("count(0)", x.count(0), 999);
        due("count(3)", x.count(3), 499);
        due("count(6)", x.count(6), 499);
        due("it lives", x.stamp(s, 0), 1);
        due("join", x.join(s, 2), 999);
        due("count(0)", x.count(0), 1000);
        due("event", x.event(999), NONE);
        due("peek", x.peek(999), NONE);
        due("join", x.join(999, 2), NONE);
        due("it lives", x.stamp(999, 0), 1);
        x.pack(999);
        due("read", x.read(), NONE);
        due("fault() of FULL", x.fault(), NONE);
        x.add(0, 1);
        due("read", x.read(), NONE);
        due("fault()", x.fault(), x.count(5) - 1);
        CHECKS.yes("lose makes none", x.lose(999));
        due("home", x.home(998, 999), NONE);
        due("count(2)", x.count(2), 1);
        CHECKS.yes("undo()", x.undo());
        CHECKS.yes("undo()", x.undo());
        due("event", x.event(s), 999);
        due("count(0)", x.count(0), 1000);
    }

    private static void fullOfNodes() {
        SplitClocks x = new SplitClocks();
        int s = x.event(deep(x, 60));
        int peeked = x.peek(s);
        for (int k = 0; k < MOST_TRIES && x.count(4) + 122 <= 20000; k++) {
            due("peek of 122 nodes", x.peek(peeked), x.count(0) - 1);
        }
        int stamps = x.count(0);
        int nodes = x.count(4);
        int acts = x.count(6);
        due("peek", x.peek(peeked), NONE);
        due("event", x.event(s), NONE);
        due("fork", x.fork(s), NONE);
        due("send", x.send(s), NONE);
        due("join", x.join(s, peeked), NONE);
        due("take", x.take(s, peeked), NONE);
        due("lose", x.lose(s) ? 1 : 0, 1);
        due("home", x.home(peeked, s), NONE);
        CHECKS.yes("undo()", x.undo());
        load(x, "000" + "0001".repeat(60) + "1001");
        due("read", x.read(), NONE);
        due("fault() of FULL", x.fault(), NONE);
        due("count(0)", x.count(0), stamps);
        due("count(4)", x.count(4), nodes);
        due("count(6)", x.count(6), acts);
        due("it lives", x.stamp(s, 0), 1);
        for (int k = 0; k < MOST_TRIES && x.count(4) < 20000; k++) {
            due("peek of 2 nodes", x.peek(2), x.count(0) - 1);
        }
        due("just full", x.count(4), 20000);
        due("peek of 2 nodes", x.peek(2), NONE);
        due("send", x.send(2), NONE);
        load(x, "0001000");
        due("read of 2 nodes", x.read(), NONE);
        CHECKS.yes("undo()", x.undo());
        due("read of 2 nodes", x.read(), x.count(0) - 1);
        due("just full", x.count(4), 20000);
        CHECKS.yes("undo()", x.undo());
        due("send needs more", x.send(2), NONE);
        due("nothing is left of it", x.count(4), 19998);
        due("it lives", x.stamp(2, 0), 1);
    }

    /** What is undone or refused leaves nothing behind, however often: the last act finds as much room as the first. */
    private static void leavesNothing() {
        SplitClocks x = new SplitClocks();
        int s = deep(x, 60);
        int nodes = x.count(4);
        for (int k = 0; k < 200; k++) {
            due("event", x.event(s), s + 2);
            CHECKS.yes("undo()", x.undo());
        }
        due("count(4)", x.count(4), nodes);
        due("event", x.event(s), s + 2);
        due("height", heightOrThrown(x, s + 2, 0, 60), 1);
        due("nodes", x.stamp(s + 2, 2), 121);
        String bits = "000" + "0001".repeat(61);
        load(x, bits);
        for (int k = 0; k < 400; k++) {
            due("read()", x.read(), NONE);
        }
        due("fault()", x.fault(), 247);
        due("event", x.event(s + 2), s + 3);
        due("height", heightOrThrown(x, s + 3, 0, 60), 2);
        due("nodes", x.stamp(s + 3, 2), 121);
    }

    /** A run that is known from elsewhere, through fork, event, join to the fold of all. */
    private static void knownExample() {
        SplitClocks x = new SplitClocks();
        x.fork(0);
        x.event(1);
        x.event(2);
        x.event(4);
        x.fork(3);
        x.event(6);
        shaped(x, 8, "[[1 0] 0] (0 (1 1 0) 0)");
        x.join(7, 5);
        shaped(x, 9, "[[0 1] 1] (1 0 1)");
        x.fork(9);
        shaped(x, 10, "[[0 1] 0] (1 0 1)");
        shaped(x, 11, "[0 1] (1 0 1)");
        x.join(8, 10);
        shaped(x, 12, "[1 0] (1 (0 1 0) 1)");
        x.event(12);
        shaped(x, 13, "[1 0] 2");
    }
}
