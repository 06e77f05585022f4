/** Counts and prints the answers that are not the ones that are due. */
final class Due {
    static final int NONE = SubflowExecutor.NONE;
    static final int PLAIN = 0;
    static final int CHOICE = 1;
    static final int JOINED = 2;
    static final int DETACHED = 3;

    // What where() answers; a worker's number is added to RUNNING and READY.
    static final int IDLE = 0;
    static final int PARKED = 1;
    static final int WAITING = 2;
    static final int RUNNING = 3;
    static final int READY = 10;
    static final int SHARED = 20;

    private static int checked = 0;
    private static int wrong = 0;

    private Due() {
    }

    static void is(String what, int got, int want) {
        checked++;
        if (got != want) {
            wrong++;
            System.out.println(what + ": answered " + got + ", due is " + want);
        }
    }

    static void yes(String what, boolean got) {
        is(what, got ? 1 : 0, 1);
    }

    static void no(String what, boolean got) {
        is(what, got ? 1 : 0, 0);
    }

    static void same(String what, String got, String want) {
        checked++;
        if (!got.equals(want)) {
            wrong++;
            System.out.println(what + ": got " + got + ", due is " + want);
        }
    }

    /** The whole line l, and nothing behind its end. */
    static void line(String what, SubflowExecutor x, int l, int... tasks) {
        for (int k = 0; k < tasks.length; k++) {
            is(what + ", lineAt(" + l + ", " + k + ")", x.lineAt(l, k), tasks[k]);
        }
        is(what + ", end of line " + l, x.lineAt(l, tasks.length), NONE);
    }

    /** An object with so many workers and PLAIN tasks without parents, needs or edges. */
    static SubflowExecutor plain(int workers, int tasks) {
        SubflowExecutor x = new SubflowExecutor(workers);
        for (int t = 0; t < tasks; t++) {
            x.add(PLAIN, NONE, 0);
        }
        return x;
    }

    /** Worker w runs what it takes, which is to be t, and its body returns. */
    static void step(String what, SubflowExecutor x, int w, int t, int ended) {
        is(what + ", begin(" + w + ")", x.begin(w), t);
        is(what + ", finish(" + w + ", 0)", x.finish(w, 0), ended);
    }

    static void close(String test) {
        System.out.println(test + ": " + checked + " answers, " + wrong + " not as due");
        if (wrong != 0) {
            System.exit(1);
        }
    }
}
