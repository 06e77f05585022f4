/**
 * The bounds of a run: each sentence of the terms (tokens, rounds, returning, failing, ending) and
 * of promises 6, 8, 9 and 10 that names one has its own test, and stands above it.
 */
public final class RunBoundsTest {
    private static final int NONE = Due.NONE;
    private static final int LEAST = Integer.MIN_VALUE;
    private static final int MOST = Integer.MAX_VALUE;

    public static void main(String[] args) {
        roundsOutOfRange();
        oneToNineRounds();
        startUnderWay();
        startAgainstACheck();
        aRoundReachesSourcesWithoutAParent();
        aRoundClearsAllArrivals();
        theLastRound();
        theLastRoundEndedByAParent();
        theNextRoundBeginsInTheSameCall();
        aFailureInEachRound();
        aRoundLastsWhileOneTaskIsActive();
        finishOfNobody();
        failOfNobody();
        answersOfAChoiceOutOfRange();
        anAnswerThatEndsTheRound();
        answersOfOtherKinds();
        aTokenIsLostOnAReadyTask();
        aTokenIsLostOnAParkedTask();
        aTokenIsLostOnARunningTask();
        aTokenIsLostOnAWaitingTask();
        arrivalsUpToTheStrongEdges();
        arrivalsOfStrongEdgesOnly();
        withoutChildrenItEndsAtOnce();
        spawnReachesOnlySources();
        spawnReachesOnlyItsOwnChildren();
        spawnClearsItsChildrensArrivals();
        upToFourTasksEnd();
        aDetachedParentEndsNotAgain();
        aParentWaitsForTheLastChild();
        aParentWaitsForWhomTheLastChildReaches();
        upToFourTasksFail();
        aFailedTaskGivesItsUnitsBack();
        aFailedTaskSpawnsNothing();
        failedSinceItSpawnedLast();
        oneOfTheChildrenFailed();
        aDetachedParentDoesNotFail();
        cancelWithoutARun();
        cancelTwice();
        cancelWithNothingToDrop();
        cancelOfAllTasks();
        cancelCountsEachLineAndTheParked();
        cancelEndsWaitingUpwards();
        cancelLeavesWhoWaitsForARunningTask();
        cancelLooksAtChildrenAlone();
        cancelledNothingPassesOn();
        cancelledNothingSpawns();
        cancelledNoRoundFollows();
        Due.close("RunBoundsTest");
    }

    // Promise 6, and a ROUND.

    /** "Refused, false: rounds is not 1 .. 9" */
    private static void roundsOutOfRange() {
        for (int rounds : new int[] {0, -1, 10, 11, LEAST, MOST}) {
            SubflowExecutor x = Due.plain(1, 1);
            Due.no("start " + rounds, x.start(rounds));
            Due.is("none was begun", x.state(), 0);
            Due.is("nothing stands", x.lineAt(1, 0), NONE);
        }
    }

    /** "Begins a run of so many rounds with its first round." */
    private static void oneToNineRounds() {
        for (int rounds = 1; rounds <= 9; rounds++) {
            SubflowExecutor x = Due.plain(1, 1);
            Due.yes("start " + rounds, x.start(rounds));
            Due.is("its first round", x.round(), 1);
            Due.line("its source", x, 1, 0);
        }
    }

    /** "Refused, false: a run is under way" */
    private static void startUnderWay() {
        SubflowExecutor x = Due.plain(1, 2);
        x.start(1);
        Due.no("ready", x.start(1));
        x.begin(0);
        Due.no("running", x.start(1));
        x.finish(0, 0);
        Due.no("one is left", x.start(1));
        x.begin(0);
        x.cancel();
        Due.no("cancelled, but one runs", x.start(1));
        x.finish(0, 0);
        Due.yes("over", x.start(1));
    }

    /** "Refused, false: check() is not 0" */
    private static void startAgainstACheck() {
        SubflowExecutor x = new SubflowExecutor(1);
        Due.no("no task", x.start(1));
        x.add(Due.PLAIN, NONE, 0);
        Due.yes("one task", x.start(1));
        x.cancel();
        x.edge(0, 0);
        Due.is("no source", x.check(), 2);
        Due.no("no source", x.start(1));
        x.add(Due.PLAIN, NONE, 0);
        Due.is("a cycle", x.check(), 3);
        Due.no("a cycle", x.start(1));
        Due.is("the latest run is that before", x.state(), 5);
    }

    /** "a token for the shared line reaches every source without a parent, in the order .." */
    private static void aRoundReachesSourcesWithoutAParent() {
        SubflowExecutor x = new SubflowExecutor(3);
        x.add(Due.DETACHED, NONE, 0);
        x.add(Due.PLAIN, 0, 0);
        x.add(Due.CHOICE, NONE, 0);
        x.add(Due.JOINED, NONE, 0);
        x.add(Due.PLAIN, 3, 0);
        x.add(Due.PLAIN, NONE, 0);
        x.edge(2, 3);
        x.start(1);
        Due.line("shared", x, 3, 0, 2, 5);
        for (int l = 0; l < 3; l++) {
            Due.line("line " + l, x, l);
        }
        for (int t : new int[] {1, 3, 4}) {
            Due.is("idle " + t, x.where(t), Due.IDLE);
        }
    }

    /** "A ROUND begins: the arrivals of all tasks become 0": of children too. */
    private static void aRoundClearsAllArrivals() {
        SubflowExecutor x = new SubflowExecutor(1);
        x.add(Due.DETACHED, NONE, 0);
        x.add(Due.PLAIN, 0, 0);
        x.add(Due.PLAIN, 0, 0);
        x.add(Due.PLAIN, 0, 0);
        x.add(Due.CHOICE, 0, 0);
        x.edge(1, 3);
        x.edge(2, 3);
        x.edge(4, 2);
        x.start(2);
        Due.step("spawns", x, 0, 0, 1);
        x.begin(0);
        Due.is("the choice reaches nothing", x.finish(0, 1), 1);
        Due.is("one is left", x.begin(0), 1);
        Due.is("no arrival yet", x.arrivals(3), 0);
        Due.is("an arrival, then the round", x.finish(0, 0), 1);
        Due.is("the second round", x.round(), 2);
        Due.is("it is gone", x.arrivals(3), 0);
        x.cancel();
    }

    /** "or if it has had all its rounds": after the last none begins. */
    private static void theLastRound() {
        for (int rounds = 1; rounds <= 9; rounds++) {
            SubflowExecutor x = Due.plain(1, 2);
            x.start(rounds);
            for (int round = 1; round <= rounds; round++) {
                Due.is("round", x.round(), round);
                Due.step("first", x, 0, 0, 1);
                Due.is("under way in round " + round, x.state(), 1);
                Due.step("second", x, 0, 1, 1);
            }
            Due.is(rounds + " rounds: over", x.state(), 3);
            Due.is("rounds", x.round(), rounds);
            Due.is("runs", x.runs(1), rounds);
            Due.line("nothing stands", x, 1);
            Due.is("nothing to take", x.begin(0), NONE);
        }
    }

    /** "No task is ACTIVE any more": the last is a parent that ends with its child. */
    private static void theLastRoundEndedByAParent() {
        SubflowExecutor x = new SubflowExecutor(1);
        x.add(Due.JOINED, NONE, 0);
        x.add(Due.PLAIN, 0, 0);
        x.start(2);
        Due.step("waits", x, 0, 0, 0);
        Due.step("both end", x, 0, 1, 2);
        Due.is("the last round", x.round(), 2);
        Due.step("waits", x, 0, 0, 0);
        Due.is("under way", x.state(), 1);
        Due.step("both end", x, 0, 1, 2);
        Due.is("over", x.state(), 3);
        Due.is("no third", x.round(), 2);
    }

    /** "otherwise its next round begins at once (in the same call)" */
    private static void theNextRoundBeginsInTheSameCall() {
        SubflowExecutor x = Due.plain(3, 2);
        x.edge(0, 1);
        x.start(2);
        Due.step("first", x, 2, 0, 1);
        Due.step("second", x, 2, 1, 1);
        Due.is("the second round", x.round(), 2);
        Due.line("in the shared line", x, 3, 0);
        Due.line("not in the worker's own", x, 2);
        Due.is("under way", x.state(), 1);
    }

    /** "the run is over too .. if a body failed in it": in the first, a middle, the last round. */
    private static void aFailureInEachRound() {
        for (int failing = 1; failing <= 3; failing++) {
            SubflowExecutor x = Due.plain(1, 2);
            x.start(3);
            for (int round = 1; round < failing; round++) {
                Due.step("first", x, 0, 0, 1);
                Due.step("second", x, 0, 1, 1);
            }
            x.begin(0);
            x.fail(0);
            Due.is("the round goes on", x.state(), 1);
            Due.step("to its end", x, 0, 1, 1);
            Due.is("failed in round " + failing, x.state(), 4);
            Due.is("rounds", x.round(), failing);
            Due.line("no other begins", x, 1);
        }
    }

    /** "No task is ACTIVE any more: the round is over": READY, PARKED, RUNNING, WAITING are. */
    private static void aRoundLastsWhileOneTaskIsActive() {
        SubflowExecutor x = new SubflowExecutor(2);
        x.add(Due.JOINED, NONE, 0);
        x.add(Due.PLAIN, 0, 1);
        x.add(Due.PLAIN, 0, 1);
        x.start(2);
        Due.step("waits", x, 0, 0, 0);
        Due.is("round, two are ready", x.round(), 1);
        Due.is("runs", x.begin(0), 2);
        Due.is("parks", x.begin(1), NONE);
        Due.is("ends", x.finish(0, 0), 1);
        Due.is("round, one is ready", x.round(), 1);
        Due.is("runs", x.begin(0), 1);
        Due.is("round, one runs and one waits", x.round(), 1);
        Due.is("both end", x.finish(0, 0), 2);
        Due.is("round", x.round(), 2);
    }

    // Promises 8 and 9: what is refused.

    /** "Refused, NONE: no task is running by w, or w is no worker." */
    private static void finishOfNobody() {
        for (int workers = 1; workers <= 4; workers++) {
            SubflowExecutor x = Due.plain(workers, 2);
            Due.is("before a run", x.finish(0, 0), NONE);
            x.start(1);
            Due.is("nothing was begun", x.finish(workers - 1, 0), NONE);
            x.begin(workers - 1);
            for (int w : new int[] {-1, workers - 2, workers, workers + 1, 4, LEAST, MOST}) {
                Due.is(workers + " workers, finish " + w, x.finish(w, 0), NONE);
            }
            Due.is("it runs still", x.where(0), Due.RUNNING + workers - 1);
            Due.is("ends", x.finish(workers - 1, 0), 1);
            Due.is("once", x.finish(workers - 1, 0), NONE);
            Due.step("the other", x, 0, 1, 1);
            Due.is("over", x.finish(0, 0), NONE);
        }
    }

    /** The same for fail; no body has failed by that. */
    private static void failOfNobody() {
        for (int workers = 1; workers <= 4; workers++) {
            SubflowExecutor x = Due.plain(workers, 2);
            Due.is("before a run", x.fail(0), NONE);
            x.start(1);
            Due.is("nothing was begun", x.fail(workers - 1), NONE);
            x.begin(workers - 1);
            for (int w : new int[] {-1, workers - 2, workers, workers + 1, 4, LEAST, MOST}) {
                Due.is(workers + " workers, fail " + w, x.fail(w), NONE);
            }
            Due.is("none failed", x.thrower(), NONE);
            Due.is("ends", x.finish(workers - 1, 0), 1);
            Due.is("no more", x.fail(workers - 1), NONE);
            Due.step("the other", x, 0, 1, 1);
            Due.is("over", x.fail(0), NONE);
            Due.is("and not failed", x.state(), 3);
        }
    }

    // A CHOICE.

    /** "if it has an edge number c, a token .. reaches the task there, otherwise nothing happens" */
    private static void answersOfAChoiceOutOfRange() {
        for (int edges = 0; edges <= 6; edges++) {
            for (int c : new int[] {LEAST, -2, -1, 0, 1, 2, 3, 4, 5, 6, 7, 24, MOST}) {
                SubflowExecutor x = choice(edges);
                Due.is("the choice", x.begin(0), 0);
                Due.is("it ends", x.finish(0, c), 1);
                String what = edges + " edges, answer " + c;
                Due.is(what, x.lineAt(0, 0), c >= 0 && c < edges ? 6 - c : NONE);
                Due.is(what + ": one at most", x.lineAt(0, 1), NONE);
                Due.is(what + ": nothing is lost", x.lost(), 0);
            }
        }
    }

    /** The choice 0 leads to so many of the tasks 6, 5, ..; the run has begun. */
    private static SubflowExecutor choice(int edges) {
        SubflowExecutor x = new SubflowExecutor(1);
        x.add(Due.CHOICE, NONE, 0);
        for (int t = 1; t <= 6; t++) {
            x.add(Due.PLAIN, NONE, 0);
        }
        for (int e = 0; e < edges; e++) {
            x.edge(0, 6 - e);
        }
        x.start(1);
        return x;
    }

    /** An edge number that it does not have: when no other task is active, the round is over. */
    private static void anAnswerThatEndsTheRound() {
        SubflowExecutor x = choice(6);
        x.begin(0);
        Due.is("no edge number 6", x.finish(0, 6), 1);
        Due.is("over", x.state(), 3);
        SubflowExecutor lone = new SubflowExecutor(1);
        lone.add(Due.CHOICE, NONE, 0);
        lone.start(2);
        Due.step("no edge at all", lone, 0, 0, 1);
        Due.is("the next round", lone.round(), 2);
    }

    /** "choice is what it answers, looked at only for a CHOICE" */
    private static void answersOfOtherKinds() {
        for (int kind : new int[] {Due.PLAIN, Due.JOINED, Due.DETACHED}) {
            for (int c : new int[] {LEAST, -1, 0, 1, 2, 6, MOST}) {
                SubflowExecutor x = new SubflowExecutor(1);
                x.add(kind, NONE, 0);
                x.add(Due.PLAIN, NONE, 0);
                x.add(Due.PLAIN, NONE, 0);
                x.edge(0, 1);
                x.edge(0, 2);
                x.start(1);
                x.begin(0);
                Due.is("kind " + kind + " answers " + c, x.finish(0, c), 1);
                Due.line("both are reached", x, 0, 1, 2);
            }
        }
    }

    // A TOKEN, and ARRIVALS. In all of these task 2 is active, and worker 1 runs task 1, which
    // has an edge to it.

    /** "otherwise the token is LOST, and nothing else happens": the task is READY. */
    private static void aTokenIsLostOnAReadyTask() {
        for (int kind = 0; kind <= 3; kind++) {
            SubflowExecutor x = reached(Due.PLAIN, kind);
            Due.is("ready", x.where(2), Due.READY);
            losesAToken("ready, reached by kind " + kind, x);
            Due.line("it stands once", x, 0, 2);
        }
    }

    /** The same: it is PARKED. */
    private static void aTokenIsLostOnAParkedTask() {
        for (int kind = 0; kind <= 3; kind++) {
            SubflowExecutor x = reached(Due.PLAIN, kind);
            Due.is("parks", x.begin(0), NONE);
            Due.is("parked", x.where(2), Due.PARKED);
            losesAToken("parked, reached by kind " + kind, x);
            x.finish(2, 0);
            Due.line("it is woken once", x, 3, 2);
        }
    }

    /** The same: it is RUNNING. */
    private static void aTokenIsLostOnARunningTask() {
        for (int kind = 0; kind <= 3; kind++) {
            SubflowExecutor x = reached(Due.PLAIN, kind);
            x.finish(2, 0);
            Due.is("runs", x.begin(0), 2);
            losesAToken("running, reached by kind " + kind, x);
            Due.is("it ends", x.finish(0, 0), 1);
            Due.is("over", x.state(), 3);
        }
    }

    /** The same: it is WAITING. */
    private static void aTokenIsLostOnAWaitingTask() {
        for (int kind = 0; kind <= 3; kind++) {
            SubflowExecutor x = reached(Due.JOINED, kind);
            x.finish(2, 0);
            Due.step("waits", x, 0, 2, 0);
            losesAToken("waiting, reached by kind " + kind, x);
            Due.line("its child stands", x, 0, 4);
            Due.step("both end", x, 0, 4, 2);
            Due.is("over", x.state(), 3);
        }
    }

    /**
     * Three workers. The choice 0 has reached task 2, which stands in line 0; worker 1 runs task 1
     * of the kind given, worker 2 the task 3, which holds the unit that task 2 needs.
     */
    private static SubflowExecutor reached(int kind, int other) {
        SubflowExecutor x = new SubflowExecutor(3);
        x.add(Due.CHOICE, NONE, 0);
        x.add(other, NONE, 0);
        x.add(kind, NONE, 1);
        x.add(Due.PLAIN, NONE, 1);
        if (kind == Due.JOINED) {
            x.add(Due.PLAIN, 2, 0);
        }
        x.edge(0, 2);
        x.edge(1, 2);
        x.start(1);
        x.begin(0);
        x.begin(1);
        x.begin(2);
        Due.is("reaches 2", x.finish(0, 0), 1);
        return x;
    }

    private static void losesAToken(String what, SubflowExecutor x) {
        int where = x.where(2);
        int runs = x.runs(2);
        Due.is(what + ": none is lost yet", x.lost(), 0);
        Due.is(what + ": it ends", x.finish(1, 0), 1);
        Due.is(what + ": lost", x.lost(), 1);
        Due.is(what + ": where", x.where(2), where);
        Due.is(what + ": runs", x.runs(2), runs);
        Due.is(what + ": arrivals", x.arrivals(2), 0);
        Due.line(what + ": not in line 1", x, 1);
    }

    /** "if they are now as many as the STRONG edges ..": one short of it nothing happens. */
    private static void arrivalsUpToTheStrongEdges() {
        for (int strong = 1; strong <= 4; strong++) {
            SubflowExecutor x = Due.plain(4, strong + 1);
            for (int a = 0; a < strong; a++) {
                x.edge(a, strong);
            }
            x.start(1);
            for (int w = 0; w < strong; w++) {
                x.begin(w);
            }
            for (int w = strong - 1; w >= 0; w--) {
                Due.is("not reached", x.where(strong), Due.IDLE);
                Due.is("arrivals", x.arrivals(strong), strong - 1 - w);
                x.finish(w, 0);
            }
            Due.is(strong + " arrived", x.arrivals(strong), 0);
            Due.is("in the line of the last", x.where(strong), Due.READY);
        }
    }

    /** Weak edges are not counted, and their token asks for no arrivals. */
    private static void arrivalsOfStrongEdgesOnly() {
        SubflowExecutor x = Due.plain(3, 2);
        x.add(Due.CHOICE, NONE, 0);
        x.add(Due.PLAIN, NONE, 0);
        x.edge(0, 3);
        x.edge(1, 3);
        x.edge(2, 3);
        x.start(1);
        for (int w = 0; w < 3; w++) {
            x.begin(w);
        }
        x.finish(0, 0);
        Due.is("one arrived", x.arrivals(3), 1);
        x.finish(2, 0);
        Due.is("reached by the choice", x.where(3), Due.READY + 2);
        Due.is("the arrivals stay", x.arrivals(3), 1);
        Due.step("it runs", x, 2, 3, 1);
        Due.is("the arrivals stay", x.arrivals(3), 1);
        x.finish(1, 0);
        Due.is("both arrived", x.arrivals(3), 0);
        Due.is("reached again", x.where(3), Due.READY + 1);
        Due.is("nothing was lost", x.lost(), 0);
    }

    // SPAWN, and ENDS.

    /** "A JOINED task that has an ACTIVE child then is WAITING": without children it ends. */
    private static void withoutChildrenItEndsAtOnce() {
        for (int kind = Due.JOINED; kind <= Due.DETACHED; kind++) {
            for (int level = 0; level <= 3; level++) {
                SubflowExecutor x = new SubflowExecutor(1);
                for (int above = 0; above < level; above++) {
                    x.add(Due.JOINED, above - 1, 0);
                }
                x.add(kind, level - 1, 0);
                x.start(1);
                for (int above = 0; above < level; above++) {
                    Due.step("waits", x, 0, above, 0);
                }
                Due.step("kind " + kind + ", level " + level, x, 0, level, level + 1);
                Due.is("over", x.state(), 3);
            }
        }
    }

    /** "a token for LINE reaches every child that is a source, in the order of their numbers" */
    private static void spawnReachesOnlySources() {
        for (int kind = Due.JOINED; kind <= Due.DETACHED; kind++) {
            SubflowExecutor x = new SubflowExecutor(2);
            x.add(kind, NONE, 0);
            x.add(Due.PLAIN, 0, 0);
            x.add(Due.PLAIN, 0, 0);
            x.add(Due.CHOICE, 0, 0);
            x.add(Due.PLAIN, 0, 0);
            x.add(Due.PLAIN, 0, 0);
            x.edge(5, 2);
            x.edge(3, 4);
            x.start(1);
            Due.step("spawns", x, 1, 0, kind == Due.JOINED ? 0 : 1);
            Due.line("its sources", x, 1, 1, 3, 5);
            Due.line("not shared", x, 2);
        }
    }

    /** "every child": no child of a child, and none of another task. */
    private static void spawnReachesOnlyItsOwnChildren() {
        SubflowExecutor x = new SubflowExecutor(1);
        x.add(Due.JOINED, NONE, 0);
        x.add(Due.JOINED, NONE, 0);
        x.add(Due.JOINED, 0, 0);
        x.add(Due.PLAIN, 1, 0);
        x.add(Due.PLAIN, 2, 0);
        x.start(1);
        Due.step("spawns", x, 0, 0, 0);
        Due.line("one child", x, 0, 2);
        Due.line("the other stands", x, 1, 1);
        Due.step("the child spawns", x, 0, 2, 0);
        Due.line("its child", x, 0, 4);
    }

    /** "the arrivals of all their children become 0": of no other task. */
    private static void spawnClearsItsChildrensArrivals() {
        SubflowExecutor x = new SubflowExecutor(3);
        int[] kinds = {Due.PLAIN, Due.DETACHED, Due.CHOICE, 0, 0, 0, 0, 0};
        for (int t = 0; t < 8; t++) {
            x.add(kinds[t], t >= 3 && t <= 5 ? 1 : NONE, 0);
        }
        int[][] edges = {{0, 1}, {0, 6}, {7, 6}, {1, 2}, {2, 1}, {3, 5}, {4, 5}};
        for (int[] edge : edges) {
            x.edge(edge[0], edge[1]);
        }
        x.start(1);
        Due.step("to the detached task", x, 0, 0, 1);
        Due.is("another source", x.begin(1), 7);
        Due.step("spawns", x, 0, 1, 1);
        Due.step("a child", x, 2, 3, 1);
        Due.is("an arrival of a child", x.arrivals(5), 1);
        Due.is("an arrival of another", x.arrivals(6), 1);
        Due.step("back", x, 0, 2, 1);
        Due.step("spawns again", x, 0, 1, 1);
        Due.is("that of the child is gone", x.arrivals(5), 0);
        Due.is("the other stays", x.arrivals(6), 1);
        Due.is("the child that stands loses a token", x.lost(), 1);
        Due.line("the other child stands again", x, 0, 4, 3, 2);
    }

    /** "the parent ENDS in the same way .., and so on upwards": one task to four. */
    private static void upToFourTasksEnd() {
        for (int row = 0; row < 8; row++) {
            SubflowExecutor x = new SubflowExecutor(1);
            for (int level = 0; level < 3; level++) {
                x.add(kindIn(row, level), level - 1, 0);
            }
            x.add(Due.PLAIN, 2, 0);
            x.start(1);
            int waiting = 0;
            for (int level = 0; level < 3; level++) {
                boolean waits = kindIn(row, level) == Due.JOINED;
                Due.step("row " + row, x, 0, level, waits ? 0 : waiting + 1);
                waiting = waits ? waiting + 1 : 0;
            }
            Due.step("row " + row + ", the child", x, 0, 3, waiting + 1);
            Due.is("over", x.state(), 3);
        }
    }

    private static int kindIn(int row, int level) {
        return (row >> level & 1) == 0 ? Due.JOINED : Due.DETACHED;
    }

    /** "has a parent of kind JOINED": a DETACHED one does not end with its last child. */
    private static void aDetachedParentEndsNotAgain() {
        SubflowExecutor x = new SubflowExecutor(1);
        x.add(Due.DETACHED, NONE, 0);
        x.add(Due.PLAIN, 0, 0);
        x.add(Due.PLAIN, NONE, 0);
        x.edge(0, 2);
        x.start(1);
        Due.step("ends alone", x, 0, 0, 1);
        Due.step("it has passed on", x, 0, 2, 1);
        Due.step("its child ends alone", x, 0, 1, 1);
        Due.is("it passed on once", x.runs(2), 1);
        Due.is("over", x.state(), 3);
    }

    /** "no child of that parent is ACTIVE any more": not before the last of 23. */
    private static void aParentWaitsForTheLastChild() {
        SubflowExecutor x = new SubflowExecutor(1);
        x.add(Due.JOINED, NONE, 0);
        for (int t = 1; t < 24; t++) {
            x.add(Due.PLAIN, 0, 0);
        }
        x.start(1);
        Due.step("waits", x, 0, 0, 0);
        for (int t = 23; t > 1; t--) {
            Due.step("a child", x, 0, t, 1);
            Due.is("waits", x.where(0), Due.WAITING);
        }
        Due.step("the last child", x, 0, 1, 2);
        Due.is("idle", x.where(0), Due.IDLE);
    }

    /** "no child .. ACTIVE": one that the last child has just reached is. */
    private static void aParentWaitsForWhomTheLastChildReaches() {
        SubflowExecutor x = new SubflowExecutor(1);
        x.add(Due.JOINED, NONE, 0);
        x.add(Due.CHOICE, 0, 0);
        x.add(Due.CHOICE, 0, 0);
        x.edge(1, 2);
        x.edge(2, 2);
        x.start(1);
        Due.step("waits", x, 0, 0, 0);
        Due.step("reaches the other", x, 0, 1, 1);
        Due.step("reaches itself", x, 0, 2, 1);
        Due.is("waits", x.where(0), Due.WAITING);
        x.begin(0);
        Due.is("reaches nothing", x.finish(0, 1), 2);
    }

    // A body FAILS.

    /** "A JOINED task fails, when it ends, if one of its children failed": one task to four. */
    private static void upToFourTasksFail() {
        for (int levels = 0; levels <= 3; levels++) {
            SubflowExecutor x = new SubflowExecutor(1);
            for (int level = 0; level <= levels; level++) {
                x.add(level == levels ? Due.PLAIN : Due.JOINED, level - 1, 0);
            }
            for (int level = 0; level <= levels; level++) {
                x.edge(level, x.add(Due.PLAIN, level - 1, 0));
            }
            x.start(3);
            for (int level = 0; level < levels; level++) {
                Due.step("waits", x, 0, level, 0);
            }
            Due.is("the child", x.begin(0), levels);
            Due.is(levels + " levels", x.fail(0), levels + 1);
            for (int t = levels + 1; t <= 2 * levels + 1; t++) {
                Due.is("nothing passed on", x.runs(t), 0);
            }
            Due.is("over", x.state(), 4);
            Due.is("whose body failed", x.thrower(), levels);
            Due.is("rounds", x.round(), 1);
        }
    }

    /** "units and parked tasks as when it returns; the worker is free" */
    private static void aFailedTaskGivesItsUnitsBack() {
        SubflowExecutor x = new SubflowExecutor(2);
        x.add(Due.PLAIN, NONE, 15);
        for (int s = 3; s >= 0; s--) {
            x.add(Due.PLAIN, NONE, 1 << s);
        }
        x.start(1);
        x.begin(0);
        Due.is("all others are parked", x.begin(1), NONE);
        Due.is("fails", x.fail(0), 1);
        for (int s = 0; s < 4; s++) {
            Due.is("held " + s, x.held(s), 0);
        }
        Due.line("all are woken", x, 2, 1, 2, 3, 4);
        Due.is("the worker is free", x.begin(0), 1);
    }

    /** "the task spawns nothing, fails, and ENDS" */
    private static void aFailedTaskSpawnsNothing() {
        for (int kind = Due.JOINED; kind <= Due.DETACHED; kind++) {
            SubflowExecutor x = new SubflowExecutor(1);
            x.add(kind, NONE, 0);
            x.add(Due.PLAIN, 0, 0);
            x.start(1);
            x.begin(0);
            Due.is("kind " + kind + " ends", x.fail(0), 1);
            Due.is("over", x.state(), 4);
            Due.is("its child", x.where(1), Due.IDLE);
            Due.is("its child did not run", x.runs(1), 0);
        }
    }

    /** "since it spawned last": in the same run, and in the run before. */
    private static void failedSinceItSpawnedLast() {
        SubflowExecutor x = new SubflowExecutor(1);
        x.add(Due.JOINED, NONE, 0);
        x.add(Due.PLAIN, 0, 0);
        x.add(Due.PLAIN, NONE, 0);
        x.edge(0, 2);
        x.start(1);
        Due.step("waits", x, 0, 0, 0);
        x.begin(0);
        Due.is("fails with its child", x.fail(0), 2);
        x.start(1);
        Due.step("waits", x, 0, 0, 0);
        Due.step("ends with its child", x, 0, 1, 2);
        Due.is("and passes on", x.where(2), Due.READY);
    }

    /** "if one of its children failed": the first, one between or the last to end. */
    private static void oneOfTheChildrenFailed() {
        for (int failing = 0; failing < 3; failing++) {
            SubflowExecutor x = new SubflowExecutor(1);
            x.add(Due.JOINED, NONE, 0);
            x.add(Due.PLAIN, NONE, 0);
            for (int child = 0; child < 3; child++) {
                x.add(Due.PLAIN, 0, 0);
            }
            x.edge(0, 1);
            x.start(1);
            Due.step("waits", x, 0, 0, 0);
            for (int child = 0; child < 3; child++) {
                x.begin(0);
                Due.is("ends", child == failing ? x.fail(0) : x.finish(0, 0), child < 2 ? 1 : 2);
            }
            Due.is("nothing passed on", x.runs(1), 0);
            Due.is("over", x.state(), 4);
        }
    }

    /** "A child of a DETACHED task that fails makes no other task fail." */
    private static void aDetachedParentDoesNotFail() {
        SubflowExecutor x = new SubflowExecutor(2);
        x.add(Due.JOINED, NONE, 0);
        x.add(Due.PLAIN, NONE, 0);
        x.add(Due.DETACHED, 0, 0);
        x.add(Due.PLAIN, 0, 0);
        x.add(Due.PLAIN, 2, 0);
        x.edge(0, 1);
        x.start(1);
        Due.step("waits", x, 0, 0, 0);
        Due.step("detached", x, 1, 2, 1);
        Due.is("its child", x.begin(1), 4);
        Due.is("fails alone", x.fail(1), 1);
        Due.step("the other child", x, 0, 3, 2);
        Due.is("the joined task passes on", x.where(1), Due.READY);
        Due.step("its successor", x, 0, 1, 1);
        Due.is("the run failed", x.state(), 4);
    }

    // Promise 10.

    /** "Refused, NONE: no run is under way" */
    private static void cancelWithoutARun() {
        SubflowExecutor x = Due.plain(1, 1);
        Due.is("before the first", x.cancel(), NONE);
        Due.is("state", x.state(), 0);
        x.start(1);
        Due.step("a run", x, 0, 0, 1);
        Due.is("over", x.cancel(), NONE);
        Due.is("state", x.state(), 3);
        x.start(1);
        x.begin(0);
        x.fail(0);
        Due.is("over by a failure", x.cancel(), NONE);
        Due.is("state", x.state(), 4);
        x.start(1);
        Due.is("under way", x.cancel(), 1);
        Due.is("over by a cancel", x.cancel(), NONE);
        Due.is("state", x.state(), 5);
    }

    /** "Refused, NONE: .. or it is cancelled already" */
    private static void cancelTwice() {
        SubflowExecutor x = Due.plain(2, 2);
        x.start(1);
        x.begin(0);
        x.begin(1);
        Due.is("once", x.cancel(), 0);
        Due.is("twice", x.cancel(), NONE);
        x.finish(0, 0);
        Due.is("one runs still", x.cancel(), NONE);
        x.finish(1, 0);
        Due.is("over", x.cancel(), NONE);
    }

    /** "Answers how many tasks were READY or PARKED": none of them. */
    private static void cancelWithNothingToDrop() {
        SubflowExecutor x = Due.plain(1, 1);
        x.start(1);
        x.begin(0);
        Due.is("one runs", x.cancel(), 0);
        Due.is("under way", x.state(), 2);
        Due.is("it runs on", x.where(0), Due.RUNNING);
        Due.is("ends", x.finish(0, 0), 1);
        Due.is("over", x.state(), 5);
    }

    /** "If no task is ACTIVE then, the run is over.": all 24 were READY. */
    private static void cancelOfAllTasks() {
        SubflowExecutor x = Due.plain(1, 24);
        x.start(9);
        Due.is("all", x.cancel(), 24);
        Due.is("over", x.state(), 5);
        Due.line("the line is empty", x, 1);
        Due.yes("another run", x.start(1));
        Due.is("the last of the line", x.lineAt(1, 23), 23);
        Due.is("no more", x.lineAt(1, 24), NONE);
    }

    /** "READY and PARKED tasks become IDLE (all lines are empty then)" */
    private static void cancelCountsEachLineAndTheParked() {
        SubflowExecutor x = new SubflowExecutor(3);
        int[] needs = {1, 0, 0, 0, 0, 1, 0, 0, 0, 0};
        for (int need : needs) {
            x.add(Due.PLAIN, NONE, need);
        }
        x.edge(1, 4);
        x.edge(1, 5);
        x.edge(2, 6);
        x.edge(2, 7);
        x.edge(4, 9);
        x.start(1);
        Due.is("holds the unit", x.begin(2), 0);
        Due.step("fills line 0", x, 0, 1, 1);
        Due.step("fills line 1", x, 1, 2, 1);
        Due.step("parks one", x, 0, 4, 1);
        Due.line("line 0", x, 0, 9);
        Due.line("line 1", x, 1, 6, 7);
        Due.line("shared", x, 3, 3, 8);
        Due.is("parked", x.where(5), Due.PARKED);
        Due.is("five ready and one parked", x.cancel(), 6);
        for (int t = 1; t < 10; t++) {
            Due.is("idle " + t, x.where(t), Due.IDLE);
        }
        for (int l = 0; l <= 3; l++) {
            Due.line("empty", x, l);
        }
        Due.is("runs on", x.where(0), Due.RUNNING + 2);
        Due.is("holds on", x.held(0), 1);
        Due.is("ends", x.finish(2, 0), 1);
        Due.line("nobody is woken", x, 3);
        Due.is("over", x.state(), 5);
    }

    /** "a WAITING task none of whose children is ACTIVE any more ends, and so on upwards" */
    private static void cancelEndsWaitingUpwards() {
        for (int levels = 1; levels <= 3; levels++) {
            SubflowExecutor x = new SubflowExecutor(1);
            for (int level = 0; level <= levels; level++) {
                x.add(level == levels ? Due.PLAIN : Due.JOINED, level - 1, 0);
            }
            x.start(1);
            for (int level = 0; level < levels; level++) {
                Due.step("waits", x, 0, level, 0);
            }
            Due.is(levels + " levels: one was ready", x.cancel(), 1);
            for (int t = 0; t <= levels; t++) {
                Due.is("idle", x.where(t), Due.IDLE);
            }
            Due.is("over", x.state(), 5);
        }
    }

    /** The same: one with an ACTIVE child waits on, and so do those above it. */
    private static void cancelLeavesWhoWaitsForARunningTask() {
        for (int levels = 1; levels <= 3; levels++) {
            SubflowExecutor x = new SubflowExecutor(1);
            for (int level = 0; level <= levels; level++) {
                x.add(level == levels ? Due.PLAIN : Due.JOINED, level - 1, 0);
            }
            x.start(1);
            for (int level = 0; level < levels; level++) {
                Due.step("waits", x, 0, level, 0);
            }
            x.begin(0);
            Due.is(levels + " levels: none was ready", x.cancel(), 0);
            for (int t = 0; t < levels; t++) {
                Due.is("waits on", x.where(t), Due.WAITING);
            }
            Due.is("under way", x.state(), 2);
            Due.is("all end", x.finish(0, 0), levels + 1);
            Due.is("over", x.state(), 5);
        }
    }

    /** The same: a child of a DETACHED child is none of its own. */
    private static void cancelLooksAtChildrenAlone() {
        SubflowExecutor x = new SubflowExecutor(2);
        x.add(Due.JOINED, NONE, 0);
        x.add(Due.DETACHED, 0, 0);
        x.add(Due.PLAIN, 1, 0);
        x.add(Due.PLAIN, 0, 0);
        x.start(1);
        Due.step("waits", x, 0, 0, 0);
        Due.step("the detached child", x, 1, 1, 1);
        Due.is("its child runs", x.begin(1), 2);
        Due.is("the other child was ready", x.cancel(), 1);
        Due.is("the joined task has ended", x.where(0), Due.IDLE);
        Due.is("the detached one's child runs on", x.where(2), Due.RUNNING + 1);
        Due.is("under way", x.state(), 2);
        Due.is("it ends alone", x.finish(1, 0), 1);
        Due.is("over", x.state(), 5);
    }

    /** "nothing passes on": neither in the cancel nor when a body returns after it. */
    private static void cancelledNothingPassesOn() {
        for (int kind = 0; kind <= 3; kind++) {
            SubflowExecutor x = new SubflowExecutor(2);
            x.add(kind, NONE, 0);
            x.add(Due.JOINED, NONE, 0);
            x.add(Due.PLAIN, 1, 0);
            x.add(Due.PLAIN, NONE, 0);
            x.add(Due.PLAIN, NONE, 0);
            x.edge(0, 3);
            x.edge(1, 4);
            x.start(1);
            Due.is("kind " + kind + " runs", x.begin(0), 0);
            Due.step("another waits", x, 1, 1, 0);
            Due.is("its child was ready", x.cancel(), 1);
            Due.is("not reached in the cancel", x.where(4), Due.IDLE);
            Due.is("ends", x.finish(0, 0), 1);
            Due.is("not reached after it", x.runs(3), 0);
            Due.is("over", x.state(), 5);
        }
    }

    /** "unless the run is cancelled, JOINED and DETACHED tasks SPAWN" */
    private static void cancelledNothingSpawns() {
        for (int kind = Due.JOINED; kind <= Due.DETACHED; kind++) {
            SubflowExecutor x = new SubflowExecutor(2);
            x.add(kind, NONE, 0);
            x.add(Due.PLAIN, 0, 0);
            x.add(Due.PLAIN, NONE, 0);
            x.start(1);
            x.begin(0);
            x.begin(1);
            x.cancel();
            Due.is("kind " + kind + " ends", x.finish(0, 0), 1);
            Due.is("its child", x.where(1), Due.IDLE);
            Due.is("under way", x.state(), 2);
            x.finish(1, 0);
            Due.is("over", x.state(), 5);
        }
    }

    /** "Then the run is over too if it was cancelled": whatever rounds are left. */
    private static void cancelledNoRoundFollows() {
        for (int round = 1; round <= 3; round++) {
            SubflowExecutor x = Due.plain(1, 1);
            x.start(3);
            for (int before = 1; before < round; before++) {
                Due.step("a round", x, 0, 0, 1);
            }
            x.begin(0);
            x.cancel();
            Due.is("ends", x.finish(0, 0), 1);
            Due.is("over", x.state(), 5);
            Due.is("rounds", x.round(), round);
            Due.line("none follows", x, 1);
        }
    }
}
