import java.util.NoSuchElementException;

/** What the tests that follow runs of calls have in common: stamps as the document writes them, both ways. */
abstract class Runs {
    static final int NONE = SplitClocks.NONE;
    static final int THROWN = -77;
    /** More than any run needs: a loop that waits for the class ends even if the class never gets there. */
    static final int MOST_TRIES = 1200;
    static final Checks CHECKS = new Checks("runs");

    static void due(String call, long got, long want) {
        CHECKS.due(call, got, want);
    }

    static void yes(String call, boolean got) {
        CHECKS.yes(call, got);
    }

    static void no(String call, boolean got) {
        CHECKS.no(call, got);
    }

    static void text(String what, String got, String want) {
        CHECKS.yes(what + " is " + got + ", due is " + want, got.equals(want));
    }

    /** The row as a text, taken by bit(). */
    static String row(SplitClocks x) {
        StringBuilder s = new StringBuilder();
        for (int i = 0; i < Math.min(x.count(5), MOST_TRIES); i++) {
            s.append(x.bit(i));
        }
        return s.toString();
    }

    static String packed(SplitClocks x, int s) {
        return x.pack(s) == NONE ? "none" : row(x);
    }

    private static int at;

    private static String shareText(String bits) {
        String head = bits.substring(at, at + 2);
        at += 2;
        switch (head) {
            case "00":
                at++;
                return bits.substring(at - 1, at);
            case "01":
                return "[0 " + shareText(bits) + "]";
            case "10":
                return "[" + shareText(bits) + " 0]";
            default:
                String l = shareText(bits);
                return "[" + l + " " + shareText(bits) + "]";
        }
    }

    private static int number(String bits) {
        int base = 0;
        int b = 2;
        while (bits.charAt(at++) == '1') {
            base += 1 << b;
            b++;
        }
        at += b;
        return base + Integer.parseInt(bits.substring(at - b, at), 2);
    }

    private static String heightText(String bits) {
        if (bits.charAt(at++) == '1') {
            return Integer.toString(number(bits));
        }
        int n = bits.charAt(at++) == '1' ? number(bits) : 0;
        String form = bits.substring(at, at + 2);
        at += 2;
        String l = form.equals("01") ? "0" : heightText(bits);
        String r = form.equals("10") ? "0" : heightText(bits);
        return "(" + n + " " + l + " " + r + ")";
    }

    /** A stamp in the document's own writing, by way of its bits. */
    static String shape(SplitClocks x, int s) {
        String bits = packed(x, s);
        if (bits.equals("none")) {
            return bits;
        }
        at = 0;
        try {
            String share = shareText(bits);
            return share + " " + heightText(bits);
        } catch (StringIndexOutOfBoundsException e) {
            return "no stamp: " + bits;
        }
    }

    private static int nodesIn(String tree) {
        return 1 + 2 * (int) tree.chars().filter(c -> c == '[' || c == '(').count();
    }

    /** The stamp is this one; and what is told of its nodes and bits is what this one has, however it came about. */
    static void shaped(SplitClocks x, int s, String want) {
        text("stamp " + s, shape(x, s), want);
        int mid = sideEnd(want, 0);
        String share = want.substring(0, mid);
        String height = want.substring(mid + 1);
        due("NODES of " + share, x.stamp(s, 1), nodesIn(share));
        due("NODES of " + height, x.stamp(s, 2), nodesIn(height));
        due("BITS of " + want, x.stamp(s, 6), shareBits(share).length() + heightBits(height).length());
    }

    /** Where the first of two sides ends that stand, parted by a blank, in brackets from start on. */
    private static int sideEnd(String s, int start) {
        int open = 0;
        int i = start;
        while (i < s.length() && (open > 0 || " )]".indexOf(s.charAt(i)) < 0)) {
            char c = s.charAt(i);
            open += c == '(' || c == '[' ? 1 : c == ')' || c == ']' ? -1 : 0;
            i++;
        }
        return i;
    }

    /** The bits of a share as the document writes it; what it rules out has the bits of the next best form. */
    static String shareBits(String s) {
        if (!s.startsWith("[")) {
            return "00" + s;
        }
        int mid = sideEnd(s, 1);
        String l = s.substring(1, mid);
        String r = s.substring(mid + 1, s.length() - 1);
        if (l.equals("0") && !r.equals("0")) {
            return "01" + shareBits(r);
        }
        return r.equals("0") && !l.equals("0") ? "10" + shareBits(l) : "11" + shareBits(l) + shareBits(r);
    }

    static String numberBits(int n) {
        StringBuilder s = new StringBuilder();
        int rest = n;
        int b = 2;
        while (rest >= 1 << b) {
            s.append('1');
            rest -= 1 << b;
            b++;
        }
        s.append('0');
        for (int k = b - 1; k >= 0; k--) {
            s.append(rest >> k & 1);
        }
        return s.toString();
    }

    /** The bits of a height as the document writes it. */
    static String heightBits(String s) {
        if (!s.startsWith("(")) {
            return "1" + numberBits(Integer.parseInt(s));
        }
        int first = s.indexOf(' ');
        int n = Integer.parseInt(s.substring(1, first));
        int mid = sideEnd(s, first + 1);
        String l = s.substring(first + 1, mid);
        String r = s.substring(mid + 1, s.length() - 1);
        String head = n == 0 ? "00" : "01" + numberBits(n);
        if (l.equals("0")) {
            return head + "01" + heightBits(r);
        }
        return r.equals("0") ? head + "10" + heightBits(l) : head + "00" + heightBits(l) + heightBits(r);
    }

    static void load(SplitClocks x, String bits) {
        x.end(0);
        for (int i = 0; i < bits.length(); i += 64) {
            String part = bits.substring(i, Math.min(bits.length(), i + 64));
            x.add(Long.parseUnsignedLong(part, 2), part.length());
        }
    }

    static int readOf(SplitClocks x, String bits) {
        load(x, bits);
        return x.read();
    }

    /** A stamp that knows this height and owns nothing. */
    static int knower(SplitClocks x, String height) {
        return readOf(x, "000" + heightBits(height));
    }

    /** Parts stamp s, that owns one whole place, and joins what of it this share wants. */
    static int piece(SplitClocks x, int s, String share) {
        if (share.equals("1")) {
            return s;
        }
        int mid = sideEnd(share, 1);
        String l = share.substring(1, mid);
        String r = share.substring(mid + 1, share.length() - 1);
        int left = x.fork(s);
        int a = l.equals("0") ? NONE : piece(x, left, l);
        int b = r.equals("0") ? NONE : piece(x, left + 1, r);
        return a == NONE ? b : b == NONE ? a : x.join(a, b);
    }

    /** On a new object: a stamp that owns this share and knows this height. */
    static int owner(SplitClocks x, String share, String height) {
        int s = share.equals("0") ? x.peek(0) : piece(x, 0, share);
        return height.equals("0") ? s : x.join(s, knower(x, height));
    }

    static long heightOrThrown(SplitClocks x, int s, long place, int n) {
        try {
            return x.height(s, place, n);
        } catch (NoSuchElementException e) {
            return THROWN;
        }
    }

    static long ownsOrThrown(SplitClocks x, int s, long place, int n) {
        try {
            return x.owns(s, place, n) ? 1 : 0;
        } catch (NoSuchElementException e) {
            return THROWN;
        }
    }

    /** Forks the leftmost share so often; the stamp that has what is left of it. */
    static int deep(SplitClocks x, int times) {
        int s = x.count(0) - 1;
        for (int k = 0; k < times; k++) {
            s = x.fork(s);
        }
        return s;
    }

    /** Stamps 7 and 8 own what lies round the middle, and what lies at both ends. */
    static SplitClocks middle() {
        SplitClocks x = new SplitClocks();
        x.fork(0);
        x.fork(1);
        x.fork(2);
        x.join(4, 5);
        x.join(3, 6);
        return x;
    }

    static void isTold(SplitClocks x, long place, int digits) {
        due("place()", x.place(), place);
        due("digits()", x.digits(), digits);
    }

    static void faulty(String bits, int want) {
        SplitClocks x = new SplitClocks();
        due("read() of " + bits, readOf(x, bits), NONE);
        due("fault() of " + bits, x.fault(), want);
        due("count(0) behind a fault", x.count(0), 1);
        due("count(4) behind a fault", x.count(4), 2);
        due("count(6) behind a fault", x.count(6), 0);
        due("the row stays", x.count(5), bits.length());
    }
}
