/**
 * The bounds of what can be asked: each sentence of promises 11 to 20 that names one has its own
 * test, and stands above it.
 */
public final class AnswerBoundsTest {
    private static final int NONE = Due.NONE;
    private static final int LEAST = Integer.MIN_VALUE;
    private static final int MOST = Integer.MAX_VALUE;

    public static void main(String[] args) {
        stateBeforeTheFirstRun();
        stateUnderWay();
        stateUnderWayAndCancelled();
        stateOver();
        stateOverAndFailed();
        stateOverAndCancelled();
        stateCancelledAndFailed();
        stateOfTheLatestRun();
        throwerWhenNoneDid();
        throwerIsTheFirst();
        throwerOfTheLatestRun();
        throwerAfterACancel();
        roundWhenThereWasNone();
        roundOfTheLatestRun();
        lostWhenThereWasNone();
        lostInAllRounds();
        stealsWhenThereWasNone();
        stealsInAllRounds();
        stealsOfTasksThatWereParked();
        stealsAreOfOthersLinesAlone();
        runsWhenThereWasNone();
        runsOfNoTask();
        runsOfATaskAddedLater();
        runsInAllRounds();
        runsOfAParkedTask();
        arrivalsWithoutARun();
        arrivalsOfNoTask();
        arrivalsOfACancelledRun();
        whereOfNoTask();
        whereWithoutARun();
        whereOfEachWorker();
        whereParkedWaitingAndShared();
        linesThatThereAreNot();
        placesThatThereAreNot();
        linesOfEachWorker();
        linesWithoutARun();
        heldOfNoSemaphore();
        heldUpToTheCapacity();
        heldByWhoRunsAlone();
        theLastOf512Calls();
        Due.close("AnswerBoundsTest");
    }

    // Promise 11.

    /** "0 no run was begun yet" */
    private static void stateBeforeTheFirstRun() {
        SubflowExecutor x = new SubflowExecutor(1);
        Due.is("empty", x.state(), 0);
        x.start(1);
        Due.is("a start that was refused", x.state(), 0);
        x.add(Due.PLAIN, NONE, 0);
        x.start(10);
        Due.is("another", x.state(), 0);
        x.cancel();
        Due.is("a cancel that was refused", x.state(), 0);
    }

    /** "1 a run is under way": to its last task, and a failed one too. */
    private static void stateUnderWay() {
        SubflowExecutor x = Due.plain(1, 2);
        x.start(1);
        Due.is("begun", x.state(), 1);
        x.begin(0);
        Due.is("one runs", x.state(), 1);
        x.fail(0);
        Due.is("it failed", x.state(), 1);
        x.begin(0);
        Due.is("the last runs", x.state(), 1);
    }

    /** "2 it is under way and cancelled" */
    private static void stateUnderWayAndCancelled() {
        SubflowExecutor x = Due.plain(2, 2);
        x.start(1);
        x.begin(0);
        x.begin(1);
        x.cancel();
        Due.is("two run", x.state(), 2);
        x.fail(0);
        Due.is("one runs", x.state(), 2);
    }

    /** "3 neither" */
    private static void stateOver() {
        SubflowExecutor x = Due.plain(1, 1);
        x.start(1);
        Due.step("the run", x, 0, 0, 1);
        Due.is("over", x.state(), 3);
        x.start(1);
        x.start(1);
        Due.step("another", x, 0, 0, 1);
        Due.is("over", x.state(), 3);
    }

    /** "4 it was not, and a body failed in it": the first body of it or the last. */
    private static void stateOverAndFailed() {
        for (int failing = 0; failing < 3; failing++) {
            SubflowExecutor x = Due.plain(1, 3);
            x.start(1);
            for (int t = 0; t < 3; t++) {
                x.begin(0);
                Due.is("ends", t == failing ? x.fail(0) : x.finish(0, 0), 1);
            }
            Due.is("body " + failing + " failed", x.state(), 4);
        }
    }

    /** "5 it was cancelled": at once, or when the last body returned. */
    private static void stateOverAndCancelled() {
        SubflowExecutor x = Due.plain(1, 1);
        x.start(1);
        x.cancel();
        Due.is("at once", x.state(), 5);
        x.start(1);
        x.begin(0);
        x.cancel();
        x.finish(0, 0);
        Due.is("with the last body", x.state(), 5);
    }

    /** "4 it was not [cancelled]": a failure before the cancel or after it does not show. */
    private static void stateCancelledAndFailed() {
        SubflowExecutor x = Due.plain(1, 2);
        x.start(1);
        x.begin(0);
        x.fail(0);
        x.cancel();
        Due.is("failed, then cancelled", x.state(), 5);
        x.start(1);
        x.begin(0);
        x.cancel();
        x.fail(0);
        Due.is("cancelled, then failed", x.state(), 5);
    }

    /** "else of the latest run": what the one before it was is forgotten. */
    private static void stateOfTheLatestRun() {
        SubflowExecutor x = Due.plain(1, 1);
        x.start(1);
        x.cancel();
        x.start(1);
        Due.is("not cancelled", x.state(), 1);
        x.begin(0);
        x.fail(0);
        Due.is("failed, not cancelled", x.state(), 4);
        x.start(1);
        Due.step("a whole run", x, 0, 0, 1);
        Due.is("not failed", x.state(), 3);
        x.start(0);
        Due.is("a start that was refused", x.state(), 3);
    }

    // Promise 12.

    /** "NONE when none did, or there was no run" */
    private static void throwerWhenNoneDid() {
        SubflowExecutor x = Due.plain(1, 1);
        Due.is("no run", x.thrower(), NONE);
        x.fail(0);
        Due.is("a fail that was refused", x.thrower(), NONE);
        x.start(1);
        Due.is("under way", x.thrower(), NONE);
        x.fail(0);
        Due.is("another that was refused", x.thrower(), NONE);
        Due.step("the run", x, 0, 0, 1);
        Due.is("over", x.thrower(), NONE);
    }

    /** "The task whose body failed first": of task 0 and 23 alike. */
    private static void throwerIsTheFirst() {
        for (int first : new int[] {0, 1, 22, 23}) {
            SubflowExecutor x = Due.plain(2, 24);
            x.start(1);
            Due.is("task 0", x.begin(0), 0);
            for (int t = 1; t < first; t++) {
                Due.step("on to " + first, x, 1, t, 1);
            }
            int w = first == 0 ? 0 : 1;
            if (w == 1) {
                Due.is("task " + first, x.begin(1), first);
            }
            x.fail(w);
            Due.is("the first", x.thrower(), first);
            x.begin(w);
            x.fail(0);
            x.fail(1);
            Due.is("it stays the first", x.thrower(), first);
        }
    }

    /** "in the latest run (under way or over)" */
    private static void throwerOfTheLatestRun() {
        SubflowExecutor x = Due.plain(1, 2);
        x.start(1);
        x.begin(0);
        x.fail(0);
        Due.is("under way", x.thrower(), 0);
        Due.step("the other", x, 0, 1, 1);
        Due.is("over", x.thrower(), 0);
        x.start(10);
        Due.is("a start that was refused", x.thrower(), 0);
        x.start(1);
        Due.is("the next run", x.thrower(), NONE);
        Due.step("the first", x, 0, 0, 1);
        x.begin(0);
        x.fail(0);
        Due.is("its own", x.thrower(), 1);
    }

    /** A body that fails in a run that is cancelled failed in that run all the same. */
    private static void throwerAfterACancel() {
        SubflowExecutor x = Due.plain(1, 1);
        x.start(1);
        x.begin(0);
        x.cancel();
        Due.is("none yet", x.thrower(), NONE);
        x.fail(0);
        Due.is("the first", x.thrower(), 0);
    }

    // Promises 13 to 15.

    /** "How many rounds of the latest run have begun; 0 when there was none." */
    private static void roundWhenThereWasNone() {
        SubflowExecutor x = Due.plain(1, 1);
        Due.is("no run", x.round(), 0);
        x.start(0);
        x.start(10);
        Due.is("starts that were refused", x.round(), 0);
        x.start(9);
        Due.is("the first", x.round(), 1);
    }

    /** The same: the next run counts anew, and a run that is over keeps its number. */
    private static void roundOfTheLatestRun() {
        SubflowExecutor x = Due.plain(1, 1);
        x.start(9);
        for (int round = 1; round <= 9; round++) {
            Due.is("round", x.round(), round);
            Due.step("round " + round, x, 0, 0, 1);
        }
        Due.is("no tenth", x.round(), 9);
        x.start(10);
        Due.is("a start that was refused", x.round(), 9);
        x.start(2);
        Due.is("the next run", x.round(), 1);
        x.cancel();
        Due.is("cancelled", x.round(), 1);
    }

    /** "How many tokens were lost ..; 0 when there was none." */
    private static void lostWhenThereWasNone() {
        SubflowExecutor x = losing();
        Due.is("no run", x.lost(), 0);
        x.start(1);
        Due.is("begun", x.lost(), 0);
    }

    /** "in the latest run, all rounds together" */
    private static void lostInAllRounds() {
        SubflowExecutor x = losing();
        x.start(3);
        for (int round = 1; round <= 3; round++) {
            Due.step("to 1 and 2", x, 0, 0, 1);
            Due.is("none is lost", x.lost(), round - 1);
            Due.step("to 1, which stands", x, 0, 2, 1);
            Due.is("one is lost", x.lost(), round);
            Due.step("1", x, 0, 1, 1);
        }
        Due.is("over", x.lost(), 3);
        x.start(0);
        Due.is("a start that was refused", x.lost(), 3);
        x.start(1);
        Due.is("the next run", x.lost(), 0);
    }

    /** 0 leads to 1 and to the choice 2, which leads to 1 as well. */
    private static SubflowExecutor losing() {
        SubflowExecutor x = Due.plain(1, 2);
        x.add(Due.CHOICE, NONE, 0);
        x.edge(0, 1);
        x.edge(0, 2);
        x.edge(2, 1);
        return x;
    }

    /** "How many steals there were ..; 0 when there was none." */
    private static void stealsWhenThereWasNone() {
        SubflowExecutor x = Due.plain(2, 2);
        Due.is("no run", x.steals(), 0);
        x.start(1);
        Due.step("shared", x, 0, 0, 1);
        Due.step("shared", x, 1, 1, 1);
        Due.is("no steal", x.steals(), 0);
    }

    /** "in the latest run": all its rounds, and none of the run before. */
    private static void stealsInAllRounds() {
        SubflowExecutor x = Due.plain(2, 2);
        x.edge(0, 1);
        x.start(3);
        for (int round = 1; round <= 3; round++) {
            Due.step("shared", x, 0, 0, 1);
            Due.step("stolen", x, 1, 1, 1);
            Due.is("steals", x.steals(), round);
        }
        x.start(10);
        Due.is("a start that was refused", x.steals(), 3);
        x.start(1);
        Due.is("the next run", x.steals(), 0);
    }

    /** "those of tasks that were parked then included" */
    private static void stealsOfTasksThatWereParked() {
        SubflowExecutor x = new SubflowExecutor(3);
        x.add(Due.PLAIN, NONE, 1);
        x.add(Due.PLAIN, NONE, 0);
        for (int t = 2; t < 5; t++) {
            x.add(Due.PLAIN, NONE, 1);
            x.edge(1, t);
        }
        x.start(1);
        Due.is("holds the unit", x.begin(0), 0);
        Due.step("fills line 1", x, 1, 1, 1);
        Due.is("all are parked", x.begin(2), NONE);
        Due.is("three steals", x.steals(), 3);
        x.finish(0, 0);
        Due.is("woken, in the shared line", x.begin(2), 2);
        Due.is("that is no steal", x.steals(), 3);
    }

    /** "this is a STEAL": what it takes of its own line or of the shared one is none. */
    private static void stealsAreOfOthersLinesAlone() {
        SubflowExecutor x = new SubflowExecutor(2);
        x.add(Due.PLAIN, NONE, 0);
        x.add(Due.PLAIN, NONE, 1);
        x.add(Due.PLAIN, NONE, 1);
        x.add(Due.PLAIN, NONE, 1);
        x.edge(0, 3);
        x.start(1);
        Due.step("fills line 0", x, 0, 0, 1);
        Due.is("shared", x.begin(1), 1);
        Due.is("parks its own and the shared one", x.begin(0), NONE);
        Due.is("parked", x.where(3), Due.PARKED);
        Due.is("parked", x.where(2), Due.PARKED);
        Due.is("no steal", x.steals(), 0);
    }

    // Promises 16 and 17.

    /** "0 when there was none" */
    private static void runsWhenThereWasNone() {
        SubflowExecutor x = Due.plain(1, 24);
        for (int t = 0; t < 24; t++) {
            Due.is("runs " + t, x.runs(t), 0);
        }
    }

    /** "or t is no task" */
    private static void runsOfNoTask() {
        SubflowExecutor x = Due.plain(1, 2);
        x.start(1);
        Due.step("0", x, 0, 0, 1);
        Due.step("1", x, 0, 1, 1);
        for (int t : new int[] {-1, -2, 2, 23, 24, 25, LEAST, MOST}) {
            Due.is("runs " + t, x.runs(t), 0);
        }
    }

    /** "(or was added later)": then it has not run in the latest run. */
    private static void runsOfATaskAddedLater() {
        SubflowExecutor x = Due.plain(1, 1);
        x.start(2);
        Due.step("0", x, 0, 0, 1);
        Due.step("0", x, 0, 0, 1);
        for (int t = 1; t < 24; t++) {
            Due.is("add", x.add(Due.PLAIN, NONE, 0), t);
            Due.is("added later", x.runs(t), 0);
        }
        Due.is("it ran", x.runs(0), 2);
        x.start(1);
        Due.is("the next run", x.runs(0), 0);
    }

    /** "How often task t became RUNNING in the latest run" */
    private static void runsInAllRounds() {
        SubflowExecutor x = new SubflowExecutor(1);
        x.add(Due.PLAIN, NONE, 0);
        x.add(Due.CHOICE, NONE, 0);
        x.edge(0, 1);
        x.edge(1, 1);
        x.start(2);
        for (int round = 1; round <= 2; round++) {
            Due.step("0", x, 0, 0, 1);
            Due.step("itself again", x, 0, 1, 1);
            Due.is("ready again", x.runs(1), 2 * round - 1);
            x.begin(0);
            Due.is("running again", x.runs(1), 2 * round);
            x.finish(0, 1);
        }
        Due.is("over", x.runs(1), 4);
        x.start(0);
        Due.is("a start that was refused", x.runs(1), 4);
    }

    /** A task that was taken but parked did not become RUNNING. */
    private static void runsOfAParkedTask() {
        SubflowExecutor x = new SubflowExecutor(2);
        x.add(Due.PLAIN, NONE, 1);
        x.add(Due.PLAIN, NONE, 1);
        x.start(1);
        x.begin(0);
        x.begin(1);
        Due.is("parked", x.where(1), Due.PARKED);
        Due.is("parked", x.runs(1), 0);
        x.finish(0, 0);
        Due.is("woken", x.runs(1), 0);
        x.begin(1);
        Due.is("running", x.runs(1), 1);
    }

    /** "0 when no run is under way": before one, and when one left some behind. */
    private static void arrivalsWithoutARun() {
        SubflowExecutor x = arriving();
        x.fail(1);
        Due.is("over", x.state(), 4);
        Due.is("over", x.arrivals(2), 0);
        x.start(1);
        Due.is("the next run", x.arrivals(2), 0);
    }

    /** Tasks 0 and 1 lead to 2; 0 has returned, and worker 1 runs 1. */
    private static SubflowExecutor arriving() {
        SubflowExecutor x = Due.plain(2, 3);
        x.edge(0, 2);
        x.edge(1, 2);
        Due.is("no run", x.arrivals(2), 0);
        x.start(1);
        Due.is("begun", x.arrivals(2), 0);
        x.begin(0);
        x.begin(1);
        x.finish(0, 0);
        Due.is("one arrived", x.arrivals(2), 1);
        return x;
    }

    /** "or t is no task" */
    private static void arrivalsOfNoTask() {
        SubflowExecutor x = arriving();
        for (int t : new int[] {-1, -2, 3, 23, 24, 25, LEAST, MOST}) {
            Due.is("arrivals " + t, x.arrivals(t), 0);
        }
    }

    /** A run that is cancelled is under way until its last body returned. */
    private static void arrivalsOfACancelledRun() {
        SubflowExecutor x = arriving();
        x.cancel();
        Due.is("under way", x.state(), 2);
        Due.is("they stay", x.arrivals(2), 1);
        x.finish(1, 0);
        Due.is("over", x.arrivals(2), 0);
    }

    // Promise 18.

    /** "NONE when t is no task" */
    private static void whereOfNoTask() {
        Due.is("an empty graph", new SubflowExecutor(1).where(0), NONE);
        SubflowExecutor x = Due.plain(1, 3);
        for (int t : new int[] {-1, -2, 3, 4, 23, 24, 25, LEAST, MOST}) {
            Due.is("no run, where " + t, x.where(t), NONE);
        }
        x.start(1);
        for (int t : new int[] {-1, -2, 3, 4, 23, 24, 25, LEAST, MOST}) {
            Due.is("under way, where " + t, x.where(t), NONE);
        }
    }

    /** "Without a run all are IDLE." */
    private static void whereWithoutARun() {
        SubflowExecutor x = Due.plain(1, 24);
        for (int t = 0; t < 24; t++) {
            Due.is("before", x.where(t), Due.IDLE);
        }
        x.start(1);
        x.begin(0);
        x.cancel();
        x.finish(0, 0);
        for (int t = 0; t < 24; t++) {
            Due.is("over", x.where(t), Due.IDLE);
        }
    }

    /** "3 + w RUNNING by worker w; 10 + w READY in the line of worker w": 0 to the highest. */
    private static void whereOfEachWorker() {
        for (int workers = 1; workers <= 4; workers++) {
            for (int w = 0; w < workers; w++) {
                SubflowExecutor x = Due.plain(workers, 2);
                x.edge(0, 1);
                x.start(1);
                Due.is("shared", x.where(0), 20);
                x.begin(w);
                Due.is("running by " + w, x.where(0), 3 + w);
                x.finish(w, 0);
                Due.is("idle", x.where(0), 0);
                Due.is("ready in line " + w, x.where(1), 10 + w);
            }
        }
    }

    /** "1 PARKED; 2 WAITING"; "20 READY in the shared line" */
    private static void whereParkedWaitingAndShared() {
        for (int workers = 2; workers <= 4; workers++) {
            SubflowExecutor x = new SubflowExecutor(workers);
            x.add(Due.JOINED, NONE, 0);
            x.add(Due.PLAIN, 0, 1);
            x.add(Due.PLAIN, 0, 1);
            x.start(1);
            Due.is("shared", x.where(0), 20);
            Due.step("waits", x, 0, 0, 0);
            Due.is("waiting", x.where(0), 2);
            x.begin(0);
            x.begin(1);
            Due.is("parked", x.where(1), 1);
            x.finish(0, 0);
            Due.is("woken", x.where(1), 20);
        }
    }

    // Promise 19.

    /** "NONE when there is no such line" */
    private static void linesThatThereAreNot() {
        for (int workers = 1; workers <= 4; workers++) {
            SubflowExecutor x = Due.plain(workers, 1);
            x.start(1);
            Due.is("the shared line", x.lineAt(workers, 0), 0);
            for (int l : new int[] {-1, -2, workers + 1, workers + 2, 20, LEAST, MOST}) {
                Due.is(workers + " workers, line " + l, x.lineAt(l, 0), NONE);
            }
        }
    }

    /** "or k is below 0 or not below its length": of an empty line, of one, of a full one. */
    private static void placesThatThereAreNot() {
        for (int length : new int[] {1, 2, 23, 24}) {
            SubflowExecutor x = Due.plain(1, length);
            x.start(1);
            Due.is("the first", x.lineAt(1, 0), 0);
            Due.is("the last", x.lineAt(1, length - 1), length - 1);
            for (int k : new int[] {-1, -2, length, length + 1, 24, 25, LEAST, MOST}) {
                Due.is(length + " stand, place " + k, x.lineAt(1, k), NONE);
                Due.is("none stands, place " + k, x.lineAt(0, k), NONE);
            }
            Due.is("none stands", x.lineAt(0, 0), NONE);
        }
    }

    /** "The k-th task (0 the first) of the line of worker l": of each worker its own. */
    private static void linesOfEachWorker() {
        SubflowExecutor x = Due.plain(4, 16);
        for (int t = 0; t < 4; t++) {
            for (int b = 0; b < 3; b++) {
                x.edge(t, 4 + 3 * t + b);
            }
        }
        x.start(1);
        for (int w = 0; w < 4; w++) {
            x.begin(w);
        }
        for (int w = 0; w < 4; w++) {
            Due.line("empty", x, w);
            x.finish(w, 0);
            Due.line("filled", x, w, 4 + 3 * w, 5 + 3 * w, 6 + 3 * w);
        }
        Due.line("shared", x, 4);
    }

    /** Without a run all are IDLE, so all lines are empty. */
    private static void linesWithoutARun() {
        SubflowExecutor x = Due.plain(2, 3);
        for (int l = 0; l <= 2; l++) {
            Due.line("before", x, l);
        }
        x.start(1);
        x.cancel();
        for (int l = 0; l <= 2; l++) {
            Due.line("over", x, l);
        }
    }

    // Promise 20.

    /** "0 when s is not 0 .. 3" */
    private static void heldOfNoSemaphore() {
        SubflowExecutor x = new SubflowExecutor(1);
        x.add(Due.PLAIN, NONE, 15);
        x.start(1);
        x.begin(0);
        for (int s = 0; s < 4; s++) {
            Due.is("held " + s, x.held(s), 1);
        }
        for (int s : new int[] {-1, -2, 4, 5, 8, LEAST, MOST}) {
            Due.is("held " + s, x.held(s), 0);
        }
    }

    /** "How many units of semaphore s are held": 0 to 4, and back to 0. */
    private static void heldUpToTheCapacity() {
        for (int s = 0; s < 4; s++) {
            SubflowExecutor x = new SubflowExecutor(4);
            for (int t = 0; t < 4; t++) {
                x.add(Due.PLAIN, NONE, 1 << s);
            }
            x.capacity(s, 4);
            x.start(1);
            for (int w = 0; w < 4; w++) {
                Due.is("held", x.held(s), w);
                Due.is("runs", x.begin(w), w);
            }
            Due.is("all", x.held(s), 4);
            for (int w = 0; w < 4; w++) {
                Due.is("ends", w % 2 == 0 ? x.finish(w, 0) : x.fail(w), 1);
                Due.is("held", x.held(s), 3 - w);
            }
            for (int other = 0; other < 4; other++) {
                Due.is("none", x.held(other), 0);
            }
        }
    }

    /** A task that is READY, PARKED or WAITING holds none. */
    private static void heldByWhoRunsAlone() {
        SubflowExecutor x = new SubflowExecutor(2);
        x.add(Due.JOINED, NONE, 1);
        x.add(Due.PLAIN, 0, 2);
        x.add(Due.PLAIN, 0, 2 + 4);
        x.start(1);
        Due.is("ready", x.held(0), 0);
        x.begin(0);
        Due.is("running", x.held(0), 1);
        x.finish(0, 0);
        Due.is("waiting", x.held(0), 0);
        Due.is("steals", x.begin(1), 1);
        Due.is("parks", x.begin(0), NONE);
        Due.is("held by who runs", x.held(1), 1);
        Due.is("parked", x.held(2), 0);
    }

    // What it is.

    /** "An object is used for at most 512 calls": it answers as due up to the last. */
    private static void theLastOf512Calls() {
        SubflowExecutor x = new SubflowExecutor(1);
        x.add(Due.PLAIN, NONE, 0);
        x.add(Due.CHOICE, NONE, 15);
        x.edge(0, 1);
        x.edge(1, 1);
        x.start(9);
        x.begin(0);
        x.finish(0, 0);
        for (int call = 8; call <= 510; call += 2) {
            Due.is("call " + call, x.begin(0), 1);
            Due.is("call " + (call + 1), x.finish(0, 0), 1);
        }
        Due.is("call 512", x.runs(1), 252);
    }
}
