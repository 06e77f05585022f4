/** Promises 6 to 9: start, begin, finish, fail. */
public final class RunTest {
    private static final int NONE = Due.NONE;

    public static void main(String[] args) {
        startRefuses();
        startReachesSourcesInOrder();
        startForgetsTheLatestRun();
        aRefusedStartKeepsTheLatestRun();
        beginRefuses();
        beginTakesTheLastOfItsOwn();
        beginTakesSharedBeforeStealing();
        beginStealsFromTheNextBehind();
        beginParksAndTakesAgain();
        beginNeedsEachSemaphore();
        finishRefuses();
        finishWakesTheParkedInOrder();
        finishGivesUnitsBackBeforeSpawning();
        finishOfAChoice();
        finishOfAChoiceLosesTokens();
        aChoiceMayReachItself();
        finishCountsArrivals();
        aTaskReachedTwiceLosesOne();
        finishOfAJoinedTask();
        finishOfADetachedTask();
        aDetachedTaskSpawnsAgain();
        spawningClearsArrivals();
        parentsPassOnInTheSameLine();
        roundsFollowAtOnce();
        failRefuses();
        failPassesNothingOn();
        failWakesTheParked();
        failGoesUpThroughJoined();
        failStopsAtDetached();
        failIsForgottenWhenSpawnedAgain();
        aFailedRoundIsTheLast();
        allTasksInOneLine();
        allTasksParked();
        Due.close("RunTest");
    }

    private static void startRefuses() {
        int[] wrong = {0, -1, 10, Integer.MIN_VALUE, Integer.MAX_VALUE};
        SubflowExecutor x = Due.plain(1, 1);
        for (int rounds : wrong) {
            Due.no("start " + rounds, x.start(rounds));
        }
        Due.is("not begun", x.state(), 0);
        Due.is("nothing ready", x.where(0), 0);
        Due.yes("start 9", x.start(9));
        Due.no("start under way", x.start(1));
        x.begin(0);
        x.cancel();
        Due.no("start while cancelled", x.start(1));
        x.finish(0, 0);
        Due.yes("start when over", x.start(1));
    }

    private static void startReachesSourcesInOrder() {
        SubflowExecutor x = new SubflowExecutor(2);
        x.add(2, NONE, 0);
        x.add(0, 0, 0);
        x.add(0, NONE, 0);
        x.add(1, NONE, 0);
        x.add(0, NONE, 0);
        x.edge(3, 2);
        x.start(1);
        Due.line("sources without a parent", x, 2, 0, 3, 4);
        Due.line("start, worker 0", x, 0);
        Due.line("start, worker 1", x, 1);
        Due.is("a child is idle", x.where(1), Due.IDLE);
        Due.is("a weak edge makes no source", x.where(2), Due.IDLE);
        Due.is("a source is ready", x.where(3), Due.SHARED);
    }

    /** A run with a failure, a lost token, a steal and an arrival left; the next has none of it. */
    private static void startForgetsTheLatestRun() {
        SubflowExecutor x = new SubflowExecutor(2);
        x.add(1, NONE, 0);
        x.add(0, NONE, 0);
        x.add(0, NONE, 0);
        x.add(0, NONE, 0);
        x.add(0, NONE, 0);
        x.edge(0, 1);
        x.edge(2, 1);
        x.edge(3, 1);
        x.edge(1, 4);
        x.edge(2, 4);
        x.start(2);
        Due.step("the choice", x, 0, 0, 1);
        Due.step("shared", x, 1, 2, 1);
        Due.is("arrived", x.arrivals(1), 1);
        Due.step("shared", x, 1, 3, 1);
        Due.is("lost", x.lost(), 1);
        Due.is("stolen", x.begin(1), 1);
        Due.is("a steal", x.steals(), 1);
        Due.is("left", x.arrivals(4), 1);
        x.fail(1);
        Due.is("failed", x.state(), 4);
        Due.is("thrower", x.thrower(), 1);

        Due.yes("start again", x.start(1));
        Due.is("again: state", x.state(), 1);
        Due.is("again: thrower", x.thrower(), NONE);
        Due.is("again: round", x.round(), 1);
        Due.is("again: lost", x.lost(), 0);
        Due.is("again: steals", x.steals(), 0);
        for (int t = 0; t < 5; t++) {
            Due.is("again: runs " + t, x.runs(t), 0);
            Due.is("again: arrivals " + t, x.arrivals(t), 0);
        }
        x.cancel();
        Due.is("cancelled", x.state(), 5);
        x.start(1);
        Due.is("not cancelled any more", x.state(), 1);
    }

    private static void aRefusedStartKeepsTheLatestRun() {
        SubflowExecutor x = Due.plain(1, 2);
        x.start(1);
        Due.step("kept", x, 0, 0, 1);
        x.begin(0);
        x.fail(0);
        Due.no("start 0", x.start(0));
        x.edge(0, 0);
        Due.no("start with a cycle", x.start(1));
        Due.is("kept: state", x.state(), 4);
        Due.is("kept: thrower", x.thrower(), 1);
        Due.is("kept: round", x.round(), 1);
        Due.is("kept: runs", x.runs(0), 1);
    }

    private static void beginRefuses() {
        SubflowExecutor x = Due.plain(2, 3);
        Due.is("begin before a run", x.begin(0), NONE);
        x.start(1);
        int[] wrong = {-1, 2, 3, Integer.MIN_VALUE, Integer.MAX_VALUE};
        for (int w : wrong) {
            Due.is("begin " + w, x.begin(w), NONE);
        }
        Due.line("nothing was taken", x, 2, 0, 1, 2);
        Due.is("begin", x.begin(1), 0);
        Due.is("begin again", x.begin(1), NONE);
        Due.line("nothing more was taken", x, 2, 1, 2);
        x.cancel();
        Due.is("begin while cancelled", x.begin(0), NONE);
        x.finish(1, 0);
        Due.is("begin when over", x.begin(0), NONE);
    }

    private static void beginTakesTheLastOfItsOwn() {
        SubflowExecutor x = fan(2);
        x.begin(1);
        x.finish(1, 0);
        Due.line("own line", x, 1, 2, 3, 4);
        Due.line("shared line", x, 2, 1);
        Due.is("the last", x.begin(1), 4);
        Due.is("its place", x.where(4), Due.RUNNING + 1);
        Due.line("the others stay", x, 1, 2, 3);
        Due.is("no steal", x.steals(), 0);
    }

    /** Task 0 leads to 2, 3 and 4; task 1 stands alone; the run has begun. */
    private static SubflowExecutor fan(int workers) {
        SubflowExecutor x = Due.plain(workers, 5);
        for (int t = 2; t < 5; t++) {
            x.edge(0, t);
        }
        x.start(1);
        return x;
    }

    private static void beginTakesSharedBeforeStealing() {
        SubflowExecutor x = fan(2);
        x.begin(0);
        x.finish(0, 0);
        Due.is("shared first", x.begin(1), 1);
        Due.is("no steal yet", x.steals(), 0);
        x.finish(1, 0);
        Due.is("then the first of the other", x.begin(1), 2);
        Due.is("a steal", x.steals(), 1);
        Due.line("what is left", x, 0, 3, 4);
        Due.is("where of what is stolen", x.where(2), Due.RUNNING + 1);
    }

    /** All four workers get a line of their own; each then steals from the next behind it. */
    private static void beginStealsFromTheNextBehind() {
        for (int w = 0; w < 4; w++) {
            SubflowExecutor x = new SubflowExecutor(4);
            for (int t = 0; t < 4; t++) {
                x.add(0, NONE, 0);
            }
            for (int t = 0; t < 4; t++) {
                x.add(0, NONE, 0);
                x.edge(t, 4 + t);
            }
            x.start(1);
            for (int v = 0; v < 4; v++) {
                x.begin(v);
            }
            for (int v = 0; v < 4; v++) {
                if (v != w) {
                    x.finish(v, 0);
                }
            }
            x.fail(w);
            for (int step = 1; step < 4; step++) {
                Due.is("worker " + w + ", step " + step, x.begin(w), 4 + (w + step) % 4);
                Due.is("worker " + w + ", steals", x.steals(), step);
                x.finish(w, 0);
            }
            Due.is("worker " + w + ", all done", x.state(), 4);
        }
    }

    private static void beginParksAndTakesAgain() {
        SubflowExecutor x = new SubflowExecutor(3);
        x.add(0, NONE, 1);
        x.add(0, NONE, 0);
        x.add(0, NONE, 1);
        x.add(0, NONE, 3);
        x.add(0, NONE, 0);
        x.edge(1, 2);
        x.edge(1, 3);
        x.edge(1, 4);
        x.start(1);
        Due.is("holds the unit", x.begin(0), 0);
        Due.step("fills the line of worker 1", x, 1, 1, 1);
        Due.line("stands there", x, 1, 2, 3, 4);
        Due.is("parks two, stealing, and runs the third", x.begin(2), 4);
        Due.is("steals count what was parked", x.steals(), 3);
        Due.is("parked 2", x.where(2), Due.PARKED);
        Due.is("parked 3", x.where(3), Due.PARKED);
        Due.is("a parked task did not run", x.runs(2), 0);
        Due.is("a parked task holds nothing", x.held(1), 0);
        Due.is("lines are empty", x.begin(1), NONE);
        Due.is("no steal of nothing", x.steals(), 3);
        x.finish(0, 0);
        Due.line("awake", x, 3, 2, 3);
        Due.is("one runs", x.begin(0), 2);
        Due.is("one parks", x.begin(1), NONE);
        Due.is("it stays parked", x.where(3), Due.PARKED);
    }

    private static void beginNeedsEachSemaphore() {
        SubflowExecutor x = new SubflowExecutor(4);
        x.capacity(2, 2);
        x.add(0, NONE, 4 + 8);
        x.add(0, NONE, 4 + 1);
        x.add(0, NONE, 8);
        x.add(0, NONE, 4);
        x.add(0, NONE, 2);
        x.start(1);
        Due.is("semaphores 2 and 3", x.begin(0), 0);
        Due.is("semaphores 2 and 0", x.begin(1), 1);
        Due.is("3 and 2 are taken, 1 is free", x.begin(2), 4);
        int[] due = {1, 1, 2, 1};
        for (int s = 0; s < 4; s++) {
            Due.is("held " + s, x.held(s), due[s]);
        }
        Due.is("parked for 3", x.where(2), Due.PARKED);
        Due.is("parked for 2", x.where(3), Due.PARKED);
    }

    private static void finishRefuses() {
        SubflowExecutor x = Due.plain(2, 2);
        Due.is("finish before a run", x.finish(0, 0), NONE);
        x.start(1);
        Due.is("finish without a task", x.finish(0, 0), NONE);
        x.begin(1);
        int[] wrong = {-1, 0, 2, 3, Integer.MIN_VALUE, Integer.MAX_VALUE};
        for (int w : wrong) {
            Due.is("finish " + w, x.finish(w, 0), NONE);
        }
        Due.is("still running", x.where(0), Due.RUNNING + 1);
        Due.is("finish", x.finish(1, 0), 1);
        Due.is("finish again", x.finish(1, 0), NONE);
        Due.step("the last", x, 0, 1, 1);
        Due.is("finish when over", x.finish(0, 0), NONE);
    }

    private static void finishWakesTheParkedInOrder() {
        SubflowExecutor x = new SubflowExecutor(3);
        x.add(0, NONE, 1);
        x.add(0, NONE, 2);
        x.add(0, NONE, 3);
        x.add(0, NONE, 2);
        x.add(0, NONE, 1);
        x.add(0, NONE, 1 + 8);
        x.start(1);
        Due.is("holds 0", x.begin(0), 0);
        Due.is("holds 1", x.begin(1), 1);
        Due.is("parks the rest", x.begin(2), NONE);
        x.finish(0, 0);
        Due.line("those that share semaphore 0", x, 3, 2, 4, 5);
        Due.is("shares none", x.where(3), Due.PARKED);
        Due.is("2 parks again, behind 3", x.begin(0), 4);
        x.finish(1, 0);
        Due.line("in the order of parking", x, 3, 5, 3, 2);
    }

    /** A waiting task holds nothing, and its children stand behind those that it wakes. */
    private static void finishGivesUnitsBackBeforeSpawning() {
        SubflowExecutor x = new SubflowExecutor(2);
        x.add(2, NONE, 1);
        x.add(0, 0, 1);
        x.add(0, NONE, 1);
        x.start(1);
        x.begin(0);
        Due.is("parks", x.begin(1), NONE);
        Due.is("waits", x.finish(0, 0), 0);
        Due.is("holds nothing", x.held(0), 0);
        Due.line("awake", x, 2, 2);
        Due.line("spawned", x, 0, 1);
        Due.is("the worker is free", x.begin(0), 1);
        Due.is("held by the child", x.held(0), 1);
    }

    private static void finishOfAChoice() {
        int[] answers = {0, 1, 2, -1, Integer.MIN_VALUE, Integer.MAX_VALUE, 5};
        int[] reached = {1, 2, NONE, NONE, NONE, NONE, NONE};
        for (int i = 0; i < answers.length; i++) {
            SubflowExecutor x = new SubflowExecutor(1);
            x.add(1, NONE, 0);
            x.add(0, NONE, 0);
            x.add(0, NONE, 0);
            x.edge(0, 1);
            x.edge(0, 2);
            x.start(1);
            x.begin(0);
            Due.is("choice " + answers[i], x.finish(0, answers[i]), 1);
            Due.is("choice " + answers[i] + " reaches", x.lineAt(0, 0), reached[i]);
            Due.is("choice " + answers[i] + " reaches one", x.lineAt(0, 1), NONE);
            Due.is("choice " + answers[i] + " state", x.state(), reached[i] == NONE ? 3 : 1);
        }
    }

    /** A weak edge's token asks for no arrivals, and is lost where the task is active. */
    private static void finishOfAChoiceLosesTokens() {
        SubflowExecutor x = new SubflowExecutor(2);
        x.add(1, NONE, 0);
        x.add(1, NONE, 0);
        x.add(0, NONE, 0);
        x.add(0, NONE, 0);
        x.edge(0, 2);
        x.edge(1, 2);
        x.edge(3, 2);
        x.start(1);
        x.begin(0);
        x.begin(1);
        x.finish(0, 0);
        Due.is("reached at once", x.where(2), Due.READY);
        Due.is("no arrivals", x.arrivals(2), 0);
        x.finish(1, 0);
        Due.is("lost", x.lost(), 1);
        Due.line("stands once", x, 0, 2);
        Due.line("and not there", x, 1);
        Due.is("own", x.begin(0), 2);
        Due.step("the strong edge", x, 1, 3, 1);
        Due.is("lost again", x.lost(), 2);
        Due.is("its arrivals are 0 again", x.arrivals(2), 0);
        Due.is("still running", x.where(2), Due.RUNNING);
    }

    private static void aChoiceMayReachItself() {
        SubflowExecutor x = new SubflowExecutor(1);
        x.add(0, NONE, 0);
        x.add(1, NONE, 0);
        x.edge(0, 1);
        x.edge(1, 1);
        x.start(1);
        Due.step("to the choice", x, 0, 0, 1);
        for (int i = 0; i < 3; i++) {
            Due.step("the choice again", x, 0, 1, 1);
            Due.is("ready", x.where(1), Due.READY);
        }
        x.begin(0);
        x.finish(0, 1);
        Due.is("runs", x.runs(1), 4);
        Due.is("lost", x.lost(), 0);
        Due.is("over", x.state(), 3);
    }

    private static void finishCountsArrivals() {
        SubflowExecutor x = Due.plain(3, 4);
        x.edge(0, 3);
        x.edge(1, 3);
        x.edge(2, 3);
        x.start(2);
        for (int w = 0; w < 3; w++) {
            x.begin(w);
        }
        x.finish(2, 0);
        Due.is("one of three", x.arrivals(3), 1);
        x.finish(0, 0);
        Due.is("two of three", x.arrivals(3), 2);
        Due.is("not reached", x.where(3), Due.IDLE);
        x.finish(1, 0);
        Due.is("three of three", x.arrivals(3), 0);
        Due.is("in the line of the last", x.where(3), Due.READY + 1);
        Due.is("choice of a plain task is not looked at", x.begin(1), 3);
        Due.is("ends", x.finish(1, -5), 1);
        Due.is("next round", x.round(), 2);
    }

    private static void aTaskReachedTwiceLosesOne() {
        SubflowExecutor x = new SubflowExecutor(1);
        x.add(0, NONE, 0);
        x.add(0, NONE, 0);
        x.add(0, NONE, 0);
        x.add(1, NONE, 0);
        x.edge(0, 1);
        x.edge(1, 2);
        x.edge(1, 3);
        x.edge(3, 1);
        x.start(1);
        Due.step("0", x, 0, 0, 1);
        Due.step("1", x, 0, 1, 1);
        Due.step("3 back to 1", x, 0, 3, 1);
        Due.line("behind what stands", x, 0, 2, 1);
        Due.step("1 again", x, 0, 1, 1);
        Due.is("2 stands already", x.lost(), 1);
        Due.line("once", x, 0, 2, 3);
    }

    private static void finishOfAJoinedTask() {
        SubflowExecutor x = new SubflowExecutor(1);
        x.add(2, NONE, 0);
        x.add(2, NONE, 0);
        x.add(0, 1, 0);
        x.add(0, 1, 0);
        x.add(0, 1, 0);
        x.edge(2, 3);
        x.edge(0, 1);
        x.start(1);
        Due.step("no children: it ends", x, 0, 0, 1);
        Due.step("children: it waits", x, 0, 1, 0);
        Due.is("waits", x.where(1), Due.WAITING);
        Due.line("sources among its children", x, 0, 2, 4);
        Due.step("a child", x, 0, 4, 1);
        Due.step("a child that passes on", x, 0, 2, 1);
        Due.is("waits still", x.where(1), Due.WAITING);
        Due.step("the last child", x, 0, 3, 2);
        Due.is("over", x.state(), 3);
        Due.is("idle", x.where(1), Due.IDLE);
        Due.is("ran once", x.runs(1), 1);
    }

    private static void finishOfADetachedTask() {
        SubflowExecutor x = new SubflowExecutor(1);
        x.add(3, NONE, 0);
        x.add(0, 0, 0);
        x.add(0, 0, 0);
        x.add(0, NONE, 0);
        x.edge(0, 3);
        x.start(2);
        Due.step("ends at once", x, 0, 0, 1);
        Due.line("children, then the successor", x, 0, 1, 2, 3);
        Due.step("the successor", x, 0, 3, 1);
        Due.is("children keep the round", x.round(), 1);
        Due.step("a child", x, 0, 2, 1);
        Due.step("the last child ends alone", x, 0, 1, 1);
        Due.is("the next round", x.round(), 2);
    }

    /** Spawned again while a child is active: its token is lost, the children's arrivals are 0. */
    private static void aDetachedTaskSpawnsAgain() {
        SubflowExecutor x = loop(3);
        Due.step("spawns", x, 0, 1, 1);
        Due.line("children, then the choice", x, 0, 3, 4, 2);
        Due.is("a child is stolen", x.begin(1), 3);
        x.finish(1, 0);
        Due.is("one arrival", x.arrivals(5), 1);
        Due.step("back", x, 0, 2, 1);
        Due.step("spawns again", x, 0, 1, 1);
        Due.is("the arrivals are 0", x.arrivals(5), 0);
        Due.is("the child that stands loses", x.lost(), 1);
        Due.line("the other stands again", x, 0, 4, 3, 2);
    }

    /** 0 leads to 1, which holds 3, 4 and 5 (of two arrivals), and on to the choice 2, back to 1. */
    private static SubflowExecutor loop(int kind) {
        SubflowExecutor x = new SubflowExecutor(2);
        x.add(0, NONE, 0);
        x.add(kind, NONE, 0);
        x.add(1, NONE, 0);
        x.add(0, 1, 0);
        x.add(0, 1, 0);
        x.add(0, 1, 0);
        x.edge(0, 1);
        x.edge(1, 2);
        x.edge(2, 1);
        x.edge(3, 5);
        x.edge(4, 5);
        x.start(1);
        Due.step("loop", x, 0, 0, 1);
        return x;
    }

    /** A child that fails leaves an arrival behind; the spawn clears it. */
    private static void spawningClearsArrivals() {
        SubflowExecutor x = new SubflowExecutor(1);
        x.add(1, NONE, 0);
        x.add(1, NONE, 0);
        x.add(2, NONE, 0);
        x.add(0, 2, 0);
        x.add(0, 2, 0);
        x.add(0, 2, 0);
        x.edge(0, 2);
        x.edge(1, 2);
        x.edge(3, 5);
        x.edge(4, 5);
        x.start(1);
        Due.step("to the joined task", x, 0, 0, 1);
        Due.step("it waits", x, 0, 2, 0);
        Due.step("a child arrives", x, 0, 4, 1);
        x.begin(0);
        Due.is("a child fails, and so its parent", x.fail(0), 2);
        Due.is("an arrival is left", x.arrivals(5), 1);
        Due.step("to the joined task again", x, 0, 1, 1);
        Due.step("it waits again", x, 0, 2, 0);
        Due.is("cleared", x.arrivals(5), 0);
        Due.step("a child", x, 0, 4, 1);
        Due.step("another", x, 0, 3, 1);
        Due.step("the third", x, 0, 5, 2);
    }

    private static void parentsPassOnInTheSameLine() {
        SubflowExecutor x = new SubflowExecutor(3);
        x.add(2, NONE, 0);
        x.add(2, 0, 0);
        x.add(2, 1, 0);
        x.add(0, 2, 0);
        x.add(0, NONE, 0);
        x.edge(0, 4);
        x.start(1);
        Due.step("level 0", x, 0, 0, 0);
        Due.step("level 1", x, 1, 1, 0);
        Due.step("level 2", x, 0, 2, 0);
        Due.is("level 3", x.begin(2), 3);
        Due.is("all four end", x.finish(2, 0), 4);
        Due.is("the line of the worker", x.where(4), Due.READY + 2);
        for (int t = 0; t < 4; t++) {
            Due.is("idle " + t, x.where(t), Due.IDLE);
        }
    }

    private static void roundsFollowAtOnce() {
        SubflowExecutor x = Due.plain(1, 3);
        x.edge(0, 2);
        x.edge(1, 2);
        x.start(3);
        for (int r = 1; r <= 3; r++) {
            Due.is("round " + r, x.round(), r);
            Due.is("state in round " + r, x.state(), 1);
            Due.line("round " + r, x, 1, 0, 1);
            Due.step("round " + r, x, 0, 0, 1);
            Due.step("round " + r, x, 0, 1, 1);
            Due.step("round " + r, x, 0, 2, 1);
            Due.is("runs of all rounds", x.runs(2), r);
        }
        Due.is("over", x.state(), 3);
        Due.is("rounds", x.round(), 3);
        Due.is("nothing stands", x.lineAt(1, 0), NONE);

        SubflowExecutor left = new SubflowExecutor(1);
        left.add(1, NONE, 0);
        left.add(0, NONE, 0);
        left.add(0, NONE, 0);
        left.edge(0, 1);
        left.edge(1, 2);
        left.add(0, NONE, 0);
        left.edge(3, 2);
        left.start(2);
        left.begin(0);
        left.finish(0, 7);
        Due.step("arrives alone", left, 0, 3, 1);
        Due.is("the next round", left.round(), 2);
        Due.is("arrivals begin anew", left.arrivals(2), 0);
    }

    private static void failRefuses() {
        SubflowExecutor x = Due.plain(2, 1);
        Due.is("fail before a run", x.fail(0), NONE);
        x.start(1);
        Due.is("fail without a task", x.fail(0), NONE);
        x.begin(1);
        int[] wrong = {-1, 0, 2, 3, Integer.MIN_VALUE, Integer.MAX_VALUE};
        for (int w : wrong) {
            Due.is("fail " + w, x.fail(w), NONE);
        }
        Due.is("no thrower", x.thrower(), NONE);
        Due.is("fail", x.fail(1), 1);
        Due.is("fail again", x.fail(1), NONE);
    }

    private static void failPassesNothingOn() {
        for (int kind = 0; kind <= 3; kind++) {
            SubflowExecutor x = new SubflowExecutor(1);
            x.add(kind, NONE, 0);
            x.add(0, NONE, 0);
            x.add(0, NONE, 0);
            x.edge(0, 1);
            if (kind >= 2) {
                x.add(0, 0, 0);
            }
            x.start(1);
            x.begin(0);
            Due.is("kind " + kind + " fails", x.fail(0), 1);
            Due.line("kind " + kind + " passes nothing on", x, 0);
            Due.is("kind " + kind + " under way", x.state(), 1);
            Due.step("others go on", x, 0, 2, 1);
            Due.is("kind " + kind + " over", x.state(), 4);
        }
    }

    private static void failWakesTheParked() {
        SubflowExecutor x = new SubflowExecutor(2);
        x.add(0, NONE, 5);
        x.add(0, NONE, 4);
        x.add(0, NONE, 1);
        x.start(1);
        x.begin(0);
        Due.is("parks both", x.begin(1), NONE);
        x.fail(0);
        Due.line("awake", x, 2, 1, 2);
        Due.is("nothing held", x.held(0) + x.held(2), 0);
        Due.is("the worker is free", x.begin(0), 1);
        Due.is("and runs on in a failed round", x.begin(1), 2);
    }

    /** Two levels of joined tasks, each with a successor; one child fails, its sibling goes on. */
    private static void failGoesUpThroughJoined() {
        SubflowExecutor x = new SubflowExecutor(1);
        x.add(2, NONE, 0);
        x.add(0, NONE, 0);
        x.add(2, 0, 0);
        x.add(0, 0, 0);
        x.add(0, 2, 0);
        x.add(0, 2, 0);
        x.add(0, 2, 0);
        x.edge(0, 1);
        x.edge(2, 3);
        x.edge(4, 6);
        x.start(1);
        Due.step("outer", x, 0, 0, 0);
        Due.step("inner", x, 0, 2, 0);
        x.begin(0);
        Due.is("a child fails", x.fail(0), 1);
        Due.is("inner waits", x.where(2), Due.WAITING);
        Due.step("its sibling", x, 0, 4, 1);
        Due.step("passes on; both parents fail", x, 0, 6, 3);
        Due.is("no successor of inner", x.runs(3), 0);
        Due.is("over", x.state(), 4);
        Due.is("no successor of outer", x.runs(1), 0);
        Due.is("thrower", x.thrower(), 5);
    }

    private static void failStopsAtDetached() {
        SubflowExecutor x = new SubflowExecutor(1);
        x.add(2, NONE, 0);
        x.add(0, NONE, 0);
        x.add(3, 0, 0);
        x.add(0, 0, 0);
        x.add(2, 2, 0);
        x.add(0, 4, 0);
        x.edge(0, 1);
        x.edge(2, 3);
        x.start(1);
        Due.step("outer", x, 0, 0, 0);
        Due.step("detached", x, 0, 2, 1);
        Due.line("its child, then its successor", x, 0, 4, 3);
        Due.is("the successor", x.begin(0), 3);
        Due.is("the outer ends with it", x.finish(0, 0), 2);
        Due.step("back of the line is the outer's successor", x, 0, 1, 1);
        Due.step("the joined child", x, 0, 4, 0);
        x.begin(0);
        Due.is("fails up to the joined child", x.fail(0), 2);
        Due.is("over", x.state(), 4);

        SubflowExecutor y = detachedAmongTwo();
        Due.is("the detached task's child", y.begin(0), 4);
        Due.is("fails while the outer waits", y.fail(0), 1);
        Due.step("the other child", y, 0, 2, 2);
        Due.is("the outer does not fail", y.where(1), Due.READY);

        SubflowExecutor z = detachedAmongTwo();
        Due.step("the detached task's child", z, 0, 4, 1);
        Due.is("a direct child", z.begin(0), 2);
        Due.is("fails, and the outer", z.fail(0), 2);
        Due.is("the outer does not pass on", z.where(1), Due.IDLE);
        Due.is("over", z.state(), 4);

        SubflowExecutor body = detachedAmongTwo();
        body.cancel();
        body.start(1);
        Due.step("outer", body, 0, 0, 0);
        Due.is("the detached task", body.begin(0), 3);
        Due.is("fails itself", body.fail(0), 1);
        Due.line("it spawned nothing", body, 0, 2);
        Due.step("the other child", body, 0, 2, 2);
        Due.is("the outer fails with it", body.where(1), Due.IDLE);
    }

    /** 0 (joined, on to 1) waits for 2; its detached child 3 has spawned 4, the last of line 0. */
    private static SubflowExecutor detachedAmongTwo() {
        SubflowExecutor x = new SubflowExecutor(1);
        x.add(2, NONE, 0);
        x.add(0, NONE, 0);
        x.add(0, 0, 0);
        x.add(3, 0, 0);
        x.add(0, 3, 0);
        x.edge(0, 1);
        x.start(1);
        Due.step("outer", x, 0, 0, 0);
        Due.step("detached", x, 0, 3, 1);
        Due.line("what is left", x, 0, 2, 4);
        return x;
    }

    private static void failIsForgottenWhenSpawnedAgain() {
        SubflowExecutor x = new SubflowExecutor(1);
        x.add(1, NONE, 0);
        x.add(1, NONE, 0);
        x.add(2, NONE, 0);
        x.add(0, NONE, 0);
        x.add(0, 2, 0);
        x.edge(0, 2);
        x.edge(1, 2);
        x.edge(2, 3);
        x.start(1);
        Due.step("to the joined task", x, 0, 0, 1);
        Due.step("it waits", x, 0, 2, 0);
        x.begin(0);
        Due.is("its child fails", x.fail(0), 2);
        Due.is("it passes nothing on", x.where(3), Due.IDLE);
        Due.step("to the joined task again", x, 0, 1, 1);
        Due.step("it waits again", x, 0, 2, 0);
        Due.step("its child returns", x, 0, 4, 2);
        Due.is("it passes on", x.where(3), Due.READY);
        Due.step("the successor", x, 0, 3, 1);
        Due.is("the run failed all the same", x.state(), 4);
        Due.is("thrower", x.thrower(), 4);
    }

    private static void aFailedRoundIsTheLast() {
        SubflowExecutor x = Due.plain(1, 2);
        x.start(5);
        x.begin(0);
        x.fail(0);
        Due.is("goes on", x.state(), 1);
        Due.step("to the round's end", x, 0, 1, 1);
        Due.is("and no further", x.state(), 4);
        Due.is("rounds", x.round(), 1);
    }

    /** As many tasks as there can be: in the shared line, then children in a worker's own. */
    private static void allTasksInOneLine() {
        SubflowExecutor x = Due.plain(1, 24);
        x.start(1);
        for (int t = 0; t < 24; t++) {
            Due.step("all in the shared line", x, 0, t, 1);
        }
        Due.is("over", x.state(), 3);
        x.start(1);
        Due.is("all dropped", x.cancel(), 24);

        SubflowExecutor y = new SubflowExecutor(1);
        y.add(2, NONE, 0);
        for (int t = 1; t < 24; t++) {
            y.add(0, 0, 0);
        }
        Due.is("nothing against it", y.check(), 0);
        y.start(1);
        Due.step("waits for 23 children", y, 0, 0, 0);
        for (int t = 23; t > 1; t--) {
            Due.step("all in line 0", y, 0, t, 1);
        }
        Due.step("the last child", y, 0, 1, 2);
        Due.is("over", y.state(), 3);
    }

    private static void allTasksParked() {
        SubflowExecutor x = new SubflowExecutor(2);
        for (int t = 0; t < 24; t++) {
            x.add(0, NONE, 1);
        }
        x.start(1);
        Due.is("holds the unit", x.begin(0), 0);
        Due.is("parks all others", x.begin(1), NONE);
        for (int t = 1; t < 24; t++) {
            Due.is("parked " + t, x.where(t), Due.PARKED);
        }
        Due.is("ends", x.finish(0, 0), 1);
        Due.is("the first of them", x.lineAt(2, 0), 1);
        Due.is("the last of them", x.lineAt(2, 22), 23);
        Due.is("runs", x.begin(1), 1);
        Due.is("parks the rest", x.begin(0), NONE);
        Due.is("dropped", x.cancel(), 22);
    }
}
