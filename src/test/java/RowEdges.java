/** Term 3: bits, the row, and each way in which a row can be faulty. */
final class RowEdges extends Runs {
    private static final String NOTHING = "000";
    private static final String ALL = "001";
    private static final String ZERO = "1000";
    private static final String ONE = "1001";
    private static final String TWO = "1010";
    private static Words words;

    static void run(Words w) {
        words = w;
        orderOfBits();
        bitsOfShares();
        bitsOfHeights();
        bitsOfNumbers();
        mostBits();
        readInOrder();
        wanted();
        tooDeep();
        elevens();
        tooLongNumbers();
        sharesOutOfForm();
        heightsNotFolded();
        numberOfNothing();
        sidesOfNothing();
        moreBehind();
    }

    private static void says(String quote) {
        words.says("Term 3", quote);
    }

    private static void bitsAre(String share, String height, String want) {
        SplitClocks x = new SplitClocks();
        int s = owner(x, share, height);
        text("bits of " + share + " " + height, packed(x, s), want);
        due("how many", x.stamp(s, 6), want.length());
    }

    /** A row without a fault: what it tells is read, and has the same bits again behind a share of 0. */
    private static void good(String share, String height) {
        SplitClocks x = new SplitClocks();
        due("read() of " + share + height, readOf(x, share + height), 1);
        due("fault()", x.fault(), NONE);
        text("its bits", packed(x, 1), NOTHING + height);
    }

    private static void orderOfBits() {
        says("BITS of a stamp: those of its OWN, then of its KNOWN.");
        bitsAre("1", "1", ALL + ONE);
        bitsAre("[1 0]", "(0 0 1)", "10001" + "0001" + ONE);
        bitsAre("0", "0", NOTHING + ZERO);
    }

    private static void bitsOfShares() {
        says("SHARE 0: 000; 1: 001;");
        bitsAre("0", "0", "000" + ZERO);
        bitsAre("1", "0", "001" + ZERO);
        says("[0 r]: 01, r;");
        bitsAre("[0 1]", "0", "01" + ALL + ZERO);
        bitsAre("[0 [0 1]]", "0", "0101" + ALL + ZERO);
        says("[l 0]: 10, l;");
        bitsAre("[1 0]", "0", "10" + ALL + ZERO);
        bitsAre("[[0 1] 0]", "0", "1001" + ALL + ZERO);
        says("[l r] else: 11, l, r.");
        bitsAre("[1 [1 0]]", "0", "11" + ALL + "10" + ALL + ZERO);
        bitsAre("[[0 1] 1]", "0", "11" + "01" + ALL + ALL + ZERO);
        bitsAre("[[0 1] [1 0]]", "0", "11" + "01" + ALL + "10" + ALL + ZERO);
        bitsAtSixtyDigits();
    }

    private static void bitsAtSixtyDigits() {
        for (int right = 0; right <= 1; right++) {
            SplitClocks x = new SplitClocks();
            int s = 0;
            for (int k = 0; k < 60; k++) {
                s = x.fork(s) + right;
            }
            String share = (right == 1 ? "01" : "10").repeat(60) + ALL;
            text("bits of 60 digits", packed(x, s), share + ZERO);
            s = x.event(s);
            text("bits of 60 digits", packed(x, s), share + (right == 1 ? "0001" : "0010").repeat(60) + ONE);
            due("how many", x.stamp(s, 6), 123 + 244);
        }
    }

    private static void bitsOfHeights() {
        says("HEIGHT: a number n: 1, NUMBER n.");
        bitsAre("1", "0", ALL + "1" + "000");
        bitsAre("1", "4", ALL + "1" + "10000");
        says("(n l r): 0; then 0 if n is 0, else 1 and NUMBER n;");
        bitsAre("1", "(0 0 1)", ALL + "0" + "0" + "01" + ONE);
        bitsAre("1", "(1 0 1)", ALL + "0" + "1" + "001" + "01" + ONE);
        bitsAre("1", "(5 0 1)", ALL + "0" + "1" + "10001" + "01" + ONE);
        says("then 01 and r if l is the number 0; 10 and l if r is it;");
        bitsAre("1", "(0 0 (0 0 1))", ALL + "00" + "01" + "00" + "01" + ONE);
        bitsAre("1", "(0 (0 1 0) 0)", ALL + "00" + "10" + "00" + "10" + ONE);
        says("else 00, l, r.");
        bitsAre("1", "(0 (0 0 1) 1)", ALL + "00" + "00" + "00" + "01" + ONE + ONE);
        bitsAre("1", "(0 1 (0 0 1))", ALL + "00" + "00" + ONE + "00" + "01" + ONE);
        bitsAre("1", "(0 (0 1 0) (0 0 1))", ALL + "00" + "00" + "00" + "10" + ONE + "00" + "01" + ONE);
    }

    private static void bitsOfNumbers() {
        says("NUMBER n by b bits (first 2): below 2^b: 0, n in b bits, the highest first;");
        bitsAre("1", "1", ALL + "1" + "0" + "01");
        bitsAre("1", "2", ALL + "1" + "0" + "10");
        bitsAre("1", "3", ALL + "1" + "0" + "11");
        says("else 1, and NUMBER n - 2^b by b + 1 bits.");
        bitsAre("1", "4", ALL + "1" + "1" + "0" + "000");
        bitsAre("1", "11", ALL + "1" + "1" + "0" + "111");
        bitsAre("1", "12", ALL + "1" + "11" + "0" + "0000");
        // by b bits the last one is 2^(b + 1) - 5
        for (int b = 2; b < 21; b++) {
            int last = (1 << b + 1) - 5;
            String bits = ALL + "1" + "1".repeat(b - 2) + "0" + "1".repeat(b);
            bitsAre("1", Integer.toString(last), bits);
            SplitClocks x = new SplitClocks();
            int s = x.event(owner(x, "1", Integer.toString(last)));
            due("one more", x.stamp(s, 8), last + 1);
            text("its bits", packed(x, s), ALL + "1" + "1".repeat(b - 1) + "0" + "0".repeat(b + 1));
        }
    }

    private static void mostBits() {
        says("THE ROW: bits, at most 600.");
        SplitClocks x = new SplitClocks();
        for (int k = 1; k <= 10; k++) {
            due("add", x.add(-1, 60), 60 * k);
        }
        due("one more", x.add(0, 1), NONE);
        due("bits", x.count(5), 600);
        due("the last one", x.bit(599), 1);
        due("none behind it", x.bit(600), NONE);
        // a stamp of 600 bits fits, one of 602 does not
        x = new SplitClocks();
        String bits = ALL + longHeight();
        due("so many bits", bits.length(), 600);
        int s = x.join(0, readOf(x, bits));
        due("pack of 600", x.pack(s), 600);
        text("its bits", row(x), bits);
        int half = x.fork(s);
        due("bits of a half", x.stamp(half, 6), 602);
        due("pack of 602", x.pack(half), NONE);
        due("bits", x.count(5), 600);
    }

    /** A height of 597 bits and 60 levels. */
    private static String longHeight() {
        return "01110000101".repeat(44) + "0101101".repeat(15) + "0001" + ONE;
    }

    private static void readInOrder() {
        says("A ROW of n bits is READ as a stamp, bit by bit from its first one on, a tree's SIDES the left one first;");
        SplitClocks x = new SplitClocks();
        due("read()", readOf(x, "11" + "01001" + "001" + "00" + "00" + ONE + "00" + "10" + TWO), 1);
        shaped(x, 1, "0 (0 1 (0 2 0))");
        says("the FAULT is the place told by the first of these that comes up:");
        // two faults: what is inside, or more to the left, comes up first
        faulty("11" + "01000" + "10000" + ZERO, 2);
        faulty("11" + ALL + "10000" + "0011", 5);
        faulty("01000" + "0011", 0);
        faulty(NOTHING + "00" + "00" + "0001" + ZERO + "0010" + ZERO, 7);
        faulty(NOTHING + "01000" + "01" + "0011", 13);
        faulty(NOTHING + "01000" + "01" + ZERO + "1", 3);
        faulty(NOTHING + "00" + "00" + ONE + ONE + "1", 3);
        faulty("11001001", 0);
        faulty("10000", 0);
        faulty("11" + NOTHING, 5);
        faulty("11" + NOTHING + "00", 7);
        faulty(NOTHING + "01000" + "01", 10);
    }

    private static void wanted() {
        says("n, if a bit is wanted and there is none;");
        faulty("", 0);
        // a good row of each form, ended ahead of each of its bits
        String[] rows = {
            ALL + ZERO, "01" + ALL + ONE, "10" + "01" + ALL + "1" + "110" + "0000",
            "11" + "10" + ALL + ALL + "01" + "10001" + "00" + ONE + "00" + "01" + TWO,
            "11" + ALL + "01" + ALL + "00" + "10" + "01" + "011" + "01" + "1" + "1110" + "01010",
        };
        for (String bits : rows) {
            SplitClocks x = new SplitClocks();
            due("read() of the whole row", readOf(x, bits), 1);
            for (int n = 0; n < bits.length(); n++) {
                faulty(bits.substring(0, n), n);
            }
        }
    }

    private static void tooDeep() {
        says("the first bit of a SHARE or HEIGHT that would lie at a PLACE of more than 60 digits (before that bit is READ);");
        String share = "01".repeat(60);
        good(share + ALL, ZERO);
        good("10".repeat(60) + ALL, ZERO);
        faulty(share + "01" + ALL + ZERO, 122);
        faulty("10".repeat(61) + ALL + ZERO, 122);
        faulty(share + "01" + NOTHING + ZERO, 122);
        faulty(share + "11" + ALL + ALL + ZERO, 122);
        faulty(share + "10", 122);
        faulty("11" + ALL + "10".repeat(60) + ALL + ZERO, 125);
        faulty("11" + "10".repeat(59) + ALL + "10".repeat(60) + ALL + ZERO, 243);
        good(NOTHING, "0001".repeat(60) + ONE);
        good(NOTHING, "0010".repeat(60) + ONE);
        good(NOTHING, "0100101".repeat(60) + ONE);
        faulty(NOTHING + "0001".repeat(61) + ONE, 247);
        faulty(NOTHING + "0010".repeat(61) + ONE, 247);
        faulty(NOTHING + "0010".repeat(61) + ZERO, 247);
        faulty(NOTHING + "0000" + ONE + "0001".repeat(60) + ONE, 251);
        faulty(NOTHING + "0001".repeat(60) + "0000" + ONE + ONE, 247);
        faulty(NOTHING + "0001".repeat(60) + "0001", 247);
    }

    private static void elevens() {
        says("the second bit of a HEIGHT's 11 that should be 00, 01 or 10;");
        faulty(NOTHING + "00" + "11", 6);
        faulty(NOTHING + "00" + "11" + ONE + ONE, 6);
        faulty(NOTHING + "01" + "011" + "11" + ONE, 9);
        faulty(NOTHING + "00" + "01" + "00" + "11", 10);
        faulty(NOTHING + "00" + "00" + ONE + "01" + "001" + "11" + ONE, 17);
        // its first bit alone is a bit that is wanted
        faulty(NOTHING + "00" + "1", 6);
        good("11" + ALL + "10" + ALL, "00" + "00" + ONE + "00" + "01" + ONE);
    }

    private static void tooLongNumbers() {
        says("the 1 of a NUMBER that would go on by 21 bits;");
        String twenty = "1".repeat(18) + "0";
        good(NOTHING, "1" + twenty + "0".repeat(20));
        good(NOTHING, "1" + twenty + "1".repeat(20));
        good(NOTHING, "01" + twenty + "1".repeat(20) + "10" + "1" + twenty + "1".repeat(20));
        faulty(NOTHING + "1" + "1".repeat(19), 22);
        faulty(NOTHING + "1" + "1".repeat(19) + "0" + "0".repeat(21), 22);
        faulty(NOTHING + "1" + "1".repeat(60), 22);
        faulty(NOTHING + "01" + "1".repeat(19) + "0" + "1".repeat(21), 23);
        faulty(NOTHING + "0001" + "1" + "1".repeat(19), 26);
        // a number that would fit, without its last bit
        faulty(NOTHING + "1" + twenty + "1".repeat(19), 42);
        faulty(NOTHING + "1" + "1".repeat(18), 22);
    }

    private static void sharesOutOfForm() {
        says("behind a SHARE's last bit its first one, if it is [0 0] or [1 1],");
        faulty("11" + ALL + ALL + ZERO, 0);
        faulty("11" + NOTHING + NOTHING + ZERO, 0);
        faulty("10" + "11" + ALL + ALL + ZERO, 2);
        faulty("11" + ALL + "11" + ALL + ALL + ZERO, 5);
        faulty("01".repeat(59) + "11" + ALL + ALL + ZERO, 118);
        faulty("11" + ALL + ALL, 0);
        says("or has by 01, 10 a SIDE that is 0,");
        faulty("01" + NOTHING + ZERO, 0);
        faulty("10" + NOTHING + ZERO, 0);
        faulty("0101" + NOTHING + ZERO, 2);
        faulty("1010" + NOTHING + ZERO, 2);
        faulty("01".repeat(60) + NOTHING + ZERO, 118);
        faulty("01" + NOTHING, 0);
        says("or by 11 one that is 0;");
        faulty("11" + NOTHING + ALL + ZERO, 0);
        faulty("11" + ALL + NOTHING + ZERO, 0);
        faulty("11" + NOTHING + "01" + ALL + ZERO, 0);
        faulty("11" + "01" + ALL + NOTHING + ZERO, 0);
        faulty("10" + "11" + ALL + NOTHING + ZERO, 2);
        faulty("11" + ALL + NOTHING, 0);
        good("11" + ALL + "10" + ALL, ZERO);
        good("11" + "01" + ALL + ALL, ZERO);
        good(NOTHING, ZERO);
        good(ALL, ZERO);
    }

    private static void heightsNotFolded() {
        says("behind a HEIGHT's last bit its first one, if it is not FOLDED,");
        faulty(NOTHING + "00" + "00" + ONE + TWO, 3);
        faulty(NOTHING + "00" + "00" + TWO + ONE, 3);
        faulty(NOTHING + "00" + "00" + ONE + ONE, 3);
        faulty(NOTHING + "01" + "001" + "00" + TWO + TWO, 3);
        faulty(NOTHING + "00" + "00" + ONE + "01001" + "01" + ONE, 3);
        faulty(NOTHING + "00" + "00" + "01001" + "10" + ONE + "01010" + "01" + ONE, 3);
        faulty(NOTHING + "00" + "01" + "00" + "00" + ONE + ONE, 7);
        faulty(NOTHING + "0001".repeat(59) + "00" + "00" + ONE + ONE, 239);
        good(NOTHING, "00" + "00" + "00" + "01" + ONE + ONE);
        good(NOTHING, "00" + "00" + ONE + "00" + "10" + TWO);
        good(NOTHING, "00" + "00" + "0001" + ONE + "0001" + ONE);
    }

    private static void numberOfNothing() {
        says("tells an n of 0 by NUMBER,");
        faulty(NOTHING + "01" + "000" + "01" + ONE, 3);
        faulty(NOTHING + "01" + "000" + "10" + ONE, 3);
        faulty(NOTHING + "01" + "000" + "00" + ONE + "0001" + ONE, 3);
        faulty(NOTHING + "0001" + "01" + "000" + "01" + ONE, 7);
        good(NOTHING, "01" + "001" + "01" + ONE);
        good(NOTHING, ZERO);
        // it comes up behind the last bit alone: one that is wanted comes up ahead of it
        faulty(NOTHING + "01" + "000" + "01", 10);
        faulty(NOTHING + "01" + "000" + "01" + "100", 13);
    }

    private static void sidesOfNothing() {
        says("or has by 00 a SIDE that is the number 0,");
        faulty(NOTHING + "00" + "00" + ZERO + ONE, 3);
        faulty(NOTHING + "00" + "00" + ONE + ZERO, 3);
        faulty(NOTHING + "00" + "00" + ZERO + ZERO, 3);
        faulty(NOTHING + "00" + "00" + ZERO + "0001" + ONE, 3);
        faulty(NOTHING + "00" + "00" + "0001" + ONE + ZERO, 3);
        faulty(NOTHING + "0010" + "00" + "00" + ZERO + ONE, 7);
        says("or by 01, 10 one that is;");
        faulty(NOTHING + "00" + "01" + ZERO, 3);
        faulty(NOTHING + "00" + "10" + ZERO, 3);
        faulty(NOTHING + "01" + "010" + "01" + ZERO, 3);
        faulty(NOTHING + "01" + "010" + "10" + ZERO, 3);
        faulty(NOTHING + "0001" + "0010" + ZERO, 7);
        faulty(NOTHING + "0001".repeat(60) + ZERO, 239);
        good(NOTHING, "0001" + "0010" + ONE);
    }

    private static void moreBehind() {
        says("behind the whole stamp the next bit, if there is one.");
        faulty(ALL + ZERO + "0", 7);
        faulty(ALL + ZERO + "1", 7);
        faulty(ALL + ZERO + ALL + ZERO, 7);
        faulty("01" + ALL + "0001" + ONE + "0", 13);
        faulty(NOTHING + "1" + "10" + "111" + "0", 9);
        good(ALL, ZERO);
        SplitClocks x = new SplitClocks();
        String bits = NOTHING + longHeight();
        due("read() of 600 bits", readOf(x, bits), 1);
        due("fault()", x.fault(), NONE);
        faulty(bits.substring(0, 599), 599);
        faulty(ALL + ZERO + "0".repeat(593), 7);
    }
}
