import java.lang.management.ManagementFactory;

/** What a run makes stays small: all calls of one run live in one room of some 7.3 million elements. */
public final class RoomTest {
    private static final long BYTES_A_RUN = 4_000_000;
    private static final long BYTES_OF_A_NEW_ONE = 10_000;

    private static long allocated() {
        return ((com.sun.management.ThreadMXBean) ManagementFactory.getThreadMXBean()).getCurrentThreadAllocatedBytes();
    }

    public static void main(String[] args) {
        Checks checks = new Checks("room");
        deepRun();
        manyStamps();
        long start = allocated();
        int calls = deepRun();
        small(checks, "a run that fills all nodes", allocated() - start, BYTES_A_RUN);
        checks.yes("so many calls: " + calls, calls <= 512);
        start = allocated();
        manyStamps();
        small(checks, "a run that fills all stamps", allocated() - start, BYTES_A_RUN);
        start = allocated();
        SplitClocks x = new SplitClocks();
        small(checks, "a new object", allocated() - start, BYTES_OF_A_NEW_ONE);
        checks.due("count(0)", x.count(0), 1);
        checks.close();
    }

    private static void small(Checks checks, String what, long bytes, long most) {
        checks.yes(what + " made " + bytes + " bytes", bytes <= most);
    }

    private static int deepRun() {
        SplitClocks x = new SplitClocks();
        int s = 0;
        for (int k = 0; k < 60; k++) {
            s = x.fork(s);
        }
        int calls = 60;
        s = x.event(s);
        while (calls < 500) {
            int next = x.event(s);
            if (next == SplitClocks.NONE) {
                x.witness(s, 100, 0);
                x.unseen(s, 1);
                x.image();
                x.back();
                x.pack(s);
                x.read();
                calls += 6;
            } else {
                s = next;
            }
            calls++;
        }
        return calls;
    }

    private static void manyStamps() {
        SplitClocks x = new SplitClocks();
        int s = 0;
        for (int k = 0; k < 499; k++) {
            s = x.send(s);
        }
        for (int k = 0; k < 13; k++) {
            x.image();
            x.back();
        }
    }
}
