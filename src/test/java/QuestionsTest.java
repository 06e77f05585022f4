/** Promises 11 to 20: what can be asked before, during and after a run. */
public final class QuestionsTest {
    private static final int NONE = Due.NONE;
    private static final int[] NO_TASK = {-1, 5, 24, 25, Integer.MIN_VALUE, Integer.MAX_VALUE};

    public static void main(String[] args) {
        stateGoesThroughAll();
        throwerIsTheFirst();
        roundCountsTheBegun();
        lostCountsAllRounds();
        stealsCountAllRounds();
        runsOfTheLatestRun();
        runsOfATaskAddedLater();
        arrivalsOnlyUnderWay();
        whereTellsEachState();
        lineAtHasEdges();
        heldHasEdges();
        askingChangesNothing();
        Due.close("QuestionsTest");
    }

    private static void stateGoesThroughAll() {
        SubflowExecutor x = Due.plain(1, 1);
        Due.is("none begun", x.state(), 0);
        x.start(0);
        Due.is("none begun by a refused start", x.state(), 0);
        x.start(1);
        Due.is("under way", x.state(), 1);
        x.begin(0);
        Due.is("running", x.state(), 1);
        x.finish(0, 0);
        Due.is("over", x.state(), 3);
        x.start(1);
        x.begin(0);
        x.fail(0);
        Due.is("failed", x.state(), 4);
        x.start(1);
        Due.is("under way again", x.state(), 1);
        x.begin(0);
        x.cancel();
        Due.is("cancelled", x.state(), 2);
        x.finish(0, 0);
        Due.is("cancelled and over", x.state(), 5);
        x.start(1);
        x.begin(0);
        x.finish(0, 0);
        Due.is("over again", x.state(), 3);
    }

    private static void throwerIsTheFirst() {
        SubflowExecutor x = Due.plain(3, 3);
        Due.is("no run", x.thrower(), NONE);
        x.start(1);
        for (int w = 0; w < 3; w++) {
            x.begin(w);
        }
        x.finish(0, 0);
        Due.is("none failed", x.thrower(), NONE);
        x.fail(2);
        Due.is("the first", x.thrower(), 2);
        x.fail(1);
        Due.is("still the first", x.thrower(), 2);
        x.start(1);
        Due.is("none in the next run", x.thrower(), NONE);

        SubflowExecutor zero = Due.plain(2, 2);
        zero.start(1);
        zero.begin(0);
        zero.begin(1);
        zero.fail(0);
        zero.fail(1);
        Due.is("task 0 is one too", zero.thrower(), 0);

        SubflowExecutor joined = new SubflowExecutor(1);
        joined.add(2, NONE, 0);
        joined.add(0, 0, 0);
        joined.start(1);
        Due.step("waits", joined, 0, 0, 0);
        joined.begin(0);
        joined.fail(0);
        Due.is("whose body failed, not its parent", joined.thrower(), 1);
    }

    private static void roundCountsTheBegun() {
        SubflowExecutor x = Due.plain(1, 1);
        Due.is("no run", x.round(), 0);
        x.start(9);
        for (int r = 1; r <= 9; r++) {
            Due.is("round", x.round(), r);
            Due.step("round " + r, x, 0, 0, 1);
        }
        Due.is("after the last", x.round(), 9);
        Due.is("over", x.state(), 3);
        x.start(2);
        Due.is("the next run", x.round(), 1);
    }

    /** In each round the choice 2 reaches 1 while it is ready. */
    private static void lostCountsAllRounds() {
        SubflowExecutor x = new SubflowExecutor(1);
        x.add(0, NONE, 0);
        x.add(0, NONE, 0);
        x.add(1, NONE, 0);
        x.edge(0, 1);
        x.edge(0, 2);
        x.edge(2, 1);
        Due.is("no run", x.lost(), 0);
        x.start(3);
        for (int r = 1; r <= 3; r++) {
            Due.step("0", x, 0, 0, 1);
            Due.step("2", x, 0, 2, 1);
            Due.is("lost", x.lost(), r);
            Due.step("1", x, 0, 1, 1);
        }
        Due.is("lost when over", x.lost(), 3);
        x.start(1);
        Due.is("the next run", x.lost(), 0);
    }

    private static void stealsCountAllRounds() {
        SubflowExecutor x = Due.plain(2, 2);
        x.edge(0, 1);
        Due.is("no run", x.steals(), 0);
        x.start(3);
        for (int r = 1; r <= 3; r++) {
            Due.step("0", x, 0, 0, 1);
            Due.step("1", x, 1, 1, 1);
            Due.is("steals", x.steals(), r);
        }
        Due.is("steals when over", x.steals(), 3);
        x.start(1);
        Due.is("the next run", x.steals(), 0);
    }

    private static void runsOfTheLatestRun() {
        SubflowExecutor x = Due.plain(1, 2);
        Due.is("no run", x.runs(0), 0);
        x.start(3);
        Due.is("ready is not running", x.runs(0), 0);
        x.begin(0);
        Due.is("running", x.runs(0), 1);
        x.finish(0, 0);
        Due.is("the same when ended", x.runs(0), 1);
        Due.step("1", x, 0, 1, 1);
        Due.step("0", x, 0, 0, 1);
        Due.is("in two rounds", x.runs(0), 2);
        Due.is("and the other", x.runs(1), 1);
        x.cancel();
        Due.is("kept when over", x.runs(0), 2);
        for (int t : NO_TASK) {
            Due.is("no task " + t, x.runs(t), 0);
        }
        Due.is("no task 2", x.runs(2), 0);
        x.start(1);
        Due.is("the next run", x.runs(0), 0);
    }

    private static void runsOfATaskAddedLater() {
        SubflowExecutor x = Due.plain(1, 1);
        x.start(1);
        Due.step("0", x, 0, 0, 1);
        Due.is("not there yet", x.runs(1), 0);
        x.add(0, NONE, 0);
        Due.is("added later", x.runs(1), 0);
        Due.is("kept", x.runs(0), 1);
    }

    private static void arrivalsOnlyUnderWay() {
        SubflowExecutor x = Due.plain(2, 3);
        x.edge(0, 2);
        x.edge(1, 2);
        Due.is("no run", x.arrivals(2), 0);
        x.start(1);
        Due.is("begun", x.arrivals(2), 0);
        x.begin(0);
        x.begin(1);
        Due.is("running", x.arrivals(2), 0);
        x.finish(0, 0);
        Due.is("one", x.arrivals(2), 1);
        for (int t : NO_TASK) {
            Due.is("no task " + t, x.arrivals(t), 0);
        }
        x.fail(1);
        Due.is("over", x.arrivals(2), 0);
        Due.is("it was never reached", x.runs(2), 0);
        x.start(1);
        Due.is("begun again", x.arrivals(2), 0);
    }

    private static void whereTellsEachState() {
        SubflowExecutor x = new SubflowExecutor(4);
        x.add(2, NONE, 0);
        x.add(0, 0, 1);
        x.add(0, 0, 1);
        x.add(0, NONE, 0);
        x.add(0, NONE, 0);
        for (int t : NO_TASK) {
            Due.is("no task " + t, x.where(t), NONE);
        }
        Due.is("no run", x.where(0), Due.IDLE);
        x.start(1);
        Due.is("shared", x.where(0), Due.SHARED);
        Due.is("running by 3", x.begin(3), 0);
        Due.is("3 + 3", x.where(0), 6);
        x.finish(3, 0);
        Due.is("waiting", x.where(0), Due.WAITING);
        Due.is("10 + 3", x.where(1), 13);
        Due.is("10 + 3 too", x.where(2), 13);
        Due.is("running by 3", x.begin(3), 2);
        Due.is("shared first", x.begin(2), 3);
        Due.is("3 + 2", x.where(3), 5);
        Due.is("shared still", x.where(4), 20);
        Due.is("the shared one", x.begin(1), 4);
        Due.is("3 + 1", x.where(4), 4);
        Due.is("parks", x.begin(0), NONE);
        Due.is("parked", x.where(1), Due.PARKED);
        x.finish(1, 0);
        x.finish(2, 0);
        x.finish(3, 0);
        Due.is("woken into the shared line", x.where(1), Due.SHARED);
        Due.is("running by 0", x.begin(0), 1);
        Due.is("3 + 0", x.where(1), 3);
        Due.is("two end", x.finish(0, 0), 2);
        for (int t = 0; t < 5; t++) {
            Due.is("over " + t, x.where(t), Due.IDLE);
        }
    }

    private static void lineAtHasEdges() {
        SubflowExecutor x = Due.plain(2, 5);
        x.edge(0, 3);
        x.edge(0, 4);
        Due.is("no run", x.lineAt(2, 0), NONE);
        x.start(1);
        Due.step("0", x, 1, 0, 1);
        Due.line("worker 0", x, 0);
        Due.line("worker 1", x, 1, 3, 4);
        Due.line("shared", x, 2, 1, 2);
        int[] noLine = {-1, 3, 4, Integer.MIN_VALUE, Integer.MAX_VALUE};
        for (int l : noLine) {
            Due.is("no line " + l, x.lineAt(l, 0), NONE);
        }
        int[] noPlace = {-1, 2, 23, 24, Integer.MIN_VALUE, Integer.MAX_VALUE};
        for (int k : noPlace) {
            Due.is("no place " + k, x.lineAt(1, k), NONE);
            Due.is("no shared place " + k, x.lineAt(2, k), NONE);
        }
        x.begin(0);
        Due.line("one taken", x, 2, 2);
        x.cancel();
        Due.line("all empty", x, 1);
        Due.line("all empty", x, 2);
    }

    private static void heldHasEdges() {
        SubflowExecutor x = new SubflowExecutor(2);
        x.capacity(3, 4);
        x.add(0, NONE, 8 + 1);
        x.add(0, NONE, 8);
        Due.is("no run", x.held(3), 0);
        x.start(1);
        Due.is("ready holds nothing", x.held(3), 0);
        x.begin(0);
        x.begin(1);
        int[] due = {1, 0, 0, 2};
        for (int s = 0; s < 4; s++) {
            Due.is("held " + s, x.held(s), due[s]);
        }
        int[] noSemaphore = {-1, 4, 5, Integer.MIN_VALUE, Integer.MAX_VALUE};
        for (int s : noSemaphore) {
            Due.is("no semaphore " + s, x.held(s), 0);
        }
        x.finish(0, 0);
        Due.is("given back", x.held(0), 0);
        Due.is("held by the other", x.held(3), 1);
        x.fail(1);
        Due.is("given back on failure", x.held(3), 0);
    }

    private static void askingChangesNothing() {
        SubflowExecutor x = Due.plain(1, 2);
        x.start(2);
        for (int i = 0; i < 2; i++) {
            Due.is("check", x.check(), 0);
            Due.is("state", x.state(), 1);
            Due.is("thrower", x.thrower(), NONE);
            Due.is("round", x.round(), 1);
            Due.is("lost", x.lost(), 0);
            Due.is("steals", x.steals(), 0);
            Due.is("runs", x.runs(0), 0);
            Due.is("arrivals", x.arrivals(0), 0);
            Due.is("where", x.where(0), Due.SHARED);
            Due.line("line", x, 1, 0, 1);
            Due.is("held", x.held(0), 0);
        }
    }
}
