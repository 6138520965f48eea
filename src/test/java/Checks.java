/** Counts answers, prints those that are not due, and ends a test with exit code 1 if there was one. */
final class Checks {
    private static final long MOST_SILENCE = 120_000;
    private volatile String name;
    private volatile int done;
    private int wrong;

    Checks(String name) {
        this.name = name;
        Thread watch = new Thread(this::watch);
        watch.setDaemon(true);
        watch.start();
    }

    /** A call that never ends is an answer that is not due, and must not keep all other tests waiting. */
    private void watch() {
        int before = -1;
        while (done != before) {
            before = done;
            try {
                Thread.sleep(MOST_SILENCE);
            } catch (InterruptedException e) {
                return;
            }
        }
        System.out.println(name + ": no answer for " + MOST_SILENCE / 1000 + " seconds");
        System.out.flush();
        Runtime.getRuntime().halt(1);
    }

    void name(String now) {
        name = now;
    }

    int done() {
        return done;
    }

    void due(String call, long got, long want) {
        done++;
        if (got != want) {
            wrong++;
            if (wrong <= 40) {
                System.out.println(name + ": " + call + " answered " + got + ", due is " + want);
            }
        }
    }

    void yes(String call, boolean got) {
        due(call, got ? 1 : 0, 1);
    }

    void no(String call, boolean got) {
        due(call, got ? 1 : 0, 0);
    }

    boolean isFine() {
        return wrong == 0;
    }

    void close() {
        System.out.println(name + ": " + done + " answers, " + wrong + " not as due");
        if (wrong != 0 || done == 0) {
            System.exit(1);
        }
    }
}
