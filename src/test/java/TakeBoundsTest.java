/**
 * The bounds of taking: each sentence of the terms (lines, takes, units, parking) and of promise
 * 7 that names one has its own test, and stands above it.
 */
public final class TakeBoundsTest {
    private static final int NONE = Due.NONE;

    public static void main(String[] args) {
        beginWithoutARun();
        beginOfNoWorker();
        beginWhileATaskRuns();
        beginAgainAfterABody();
        allLinesEmpty();
        allLinesEmptyInACancelledRun();
        oneOwnTask();
        theLastOfItsOwn();
        theFirstOfTheShared();
        ownBeforeSharedBeforeAnothers();
        theFirstOfAnothers();
        stealsGoRound();
        theHighestStealsFromZeroFirst();
        aLoneWorkerStealsNothing();
        whatIsTakenLeavesItsLine();
        behindTheLastOfALine();
        aFullSharedLine();
        aFullOwnLine();
        unitsUpToTheCapacity();
        aUnitOfEachSemaphore();
        noUnitIsHeldWhenParked();
        takesAgainUntilOneRuns();
        allThatWasTakenParked();
        parkedFromEveryLine();
        parkedBehindThoseThatAre();
        wokenByASemaphoreInCommonOnly();
        wokenByNoNeeds();
        wokenThoughAnotherUnitIsMissing();
        wokenBehindTheSharedLine();
        Due.close("TakeBoundsTest");
    }

    // Promise 7: what is refused.

    /** "Refused, NONE: no run is under way" */
    private static void beginWithoutARun() {
        SubflowExecutor x = Due.plain(2, 1);
        Due.is("before the first run", x.begin(0), NONE);
        x.start(0);
        Due.is("after a start that was refused", x.begin(0), NONE);
        x.start(1);
        Due.step("a run", x, 0, 0, 1);
        Due.is("over", x.begin(0), NONE);
        Due.is("over, another worker", x.begin(1), NONE);
        x.start(1);
        x.cancel();
        Due.is("over by a cancel", x.begin(0), NONE);
        x.start(1);
        x.begin(1);
        x.fail(1);
        Due.is("over by a failure", x.begin(1), NONE);
    }

    /** "Refused, NONE: w is no worker" */
    private static void beginOfNoWorker() {
        for (int workers = 1; workers <= 4; workers++) {
            SubflowExecutor x = Due.plain(workers, 6);
            x.start(1);
            int[] wrong = {-1, -2, workers, workers + 1, Integer.MIN_VALUE, Integer.MAX_VALUE};
            for (int w : wrong) {
                Due.is(workers + " workers, begin " + w, x.begin(w), NONE);
            }
            Due.line("nothing was taken", x, workers, 0, 1, 2, 3, 4, 5);
            Due.is("the highest", x.begin(workers - 1), 0);
        }
    }

    /** "Refused, NONE: a task is running by w" */
    private static void beginWhileATaskRuns() {
        for (int w = 0; w < 4; w++) {
            SubflowExecutor x = Due.plain(4, 3);
            x.start(1);
            Due.is("worker " + w, x.begin(w), 0);
            Due.is("worker " + w + " again", x.begin(w), NONE);
            Due.line("nothing more was taken", x, 4, 1, 2);
            Due.is("it runs still", x.where(0), Due.RUNNING + w);
            Due.is("it ran once", x.runs(0), 1);
        }
    }

    /** "The worker is free", when a body returns and when it fails. */
    private static void beginAgainAfterABody() {
        SubflowExecutor x = Due.plain(1, 3);
        x.start(1);
        x.begin(0);
        x.finish(0, 0);
        Due.is("after it returned", x.begin(0), 1);
        x.fail(0);
        Due.is("after it failed", x.begin(0), 2);
    }

    /** "NONE when all lines are empty": that is no steal, and nothing changes. */
    private static void allLinesEmpty() {
        for (int workers = 2; workers <= 4; workers++) {
            SubflowExecutor x = Due.plain(workers, 1);
            x.start(2);
            x.begin(0);
            String before = Whole.answers(x);
            for (int w = 1; w < workers; w++) {
                Due.is(workers + " workers, begin " + w, x.begin(w), NONE);
            }
            Due.same("nothing changed", Whole.answers(x), before);
            x.finish(0, 0);
            Due.is("the next round fills the shared line", x.begin(workers - 1), 0);
        }
    }

    /** "(all lines are empty then)": a free worker finds nothing once the run is cancelled. */
    private static void allLinesEmptyInACancelledRun() {
        SubflowExecutor x = Due.plain(2, 5);
        x.edge(0, 3);
        x.edge(0, 4);
        x.start(1);
        Due.step("fills line 0", x, 0, 0, 1);
        Due.is("runs on", x.begin(0), 4);
        x.cancel();
        Due.is("nothing to take", x.begin(1), NONE);
        Due.is("no steal", x.steals(), 0);
    }

    // A worker TAKES.

    /** "if its own line is not empty, the last of it": the only one is the last. */
    private static void oneOwnTask() {
        SubflowExecutor x = Due.plain(1, 2);
        x.edge(0, 1);
        x.start(1);
        Due.step("leads on", x, 0, 0, 1);
        Due.line("one stands", x, 0, 1);
        Due.is("it is taken", x.begin(0), 1);
        Due.line("none stands", x, 0);
    }

    /** The same for a line of six: the last first, down to the first. */
    private static void theLastOfItsOwn() {
        SubflowExecutor x = Due.plain(1, 7);
        for (int b = 1; b <= 6; b++) {
            x.edge(0, b);
        }
        x.start(1);
        Due.step("leads on", x, 0, 0, 1);
        for (int t = 6; t >= 1; t--) {
            Due.step("from the last", x, 0, t, 1);
        }
    }

    /** "otherwise, if the shared line is not empty, the first of that" */
    private static void theFirstOfTheShared() {
        SubflowExecutor x = Due.plain(3, 6);
        x.start(1);
        for (int t = 0; t < 6; t++) {
            Due.step("from the first", x, t % 3, t, 1);
        }
    }

    /** "otherwise": each line is looked at only when the one before it is empty. */
    private static void ownBeforeSharedBeforeAnothers() {
        SubflowExecutor x = Due.plain(2, 7);
        x.edge(0, 3);
        x.edge(1, 4);
        x.edge(0, 5);
        x.edge(1, 6);
        x.start(1);
        x.begin(0);
        x.begin(1);
        x.finish(0, 0);
        x.finish(1, 0);
        Due.line("line 0", x, 0, 3, 5);
        Due.line("line 1", x, 1, 4, 6);
        Due.line("shared", x, 2, 2);
        Due.step("the last of its own", x, 0, 5, 1);
        Due.step("the first of its own", x, 0, 3, 1);
        Due.step("shared", x, 0, 2, 1);
        Due.is("no steal yet", x.steals(), 0);
        Due.step("the first of the other", x, 0, 4, 1);
        Due.is("a steal", x.steals(), 1);
        Due.step("the last of the other", x, 0, 6, 1);
        Due.is("another", x.steals(), 2);
        Due.is("over", x.state(), 3);
    }

    /** "the first of the line of the first one whose line is not empty" */
    private static void theFirstOfAnothers() {
        SubflowExecutor x = Due.plain(2, 5);
        for (int b = 1; b < 5; b++) {
            x.edge(0, b);
        }
        x.start(1);
        Due.step("fills line 1", x, 1, 0, 1);
        for (int t = 1; t < 5; t++) {
            Due.is("from the first", x.begin(0), t);
            Due.is("steals", x.steals(), t);
            Due.is("what is left", x.lineAt(1, 0), t < 4 ? t + 1 : NONE);
            x.finish(0, 0);
        }
    }

    /**
     * "of the workers behind it (the next number on, 0 behind the highest, and so on round), .. the
     * first one whose line is not empty": for each number of workers, each that steals, and each
     * set of lines that are not empty.
     */
    private static void stealsGoRound() {
        for (int workers = 1; workers <= 4; workers++) {
            for (int thief = 0; thief < workers; thief++) {
                for (int filled = 0; filled < 1 << workers; filled++) {
                    if ((filled >> thief & 1) == 0) {
                        stealFrom(workers, thief, filled);
                    }
                }
            }
        }
    }

    private static void stealFrom(int workers, int thief, int filled) {
        SubflowExecutor x = lines(workers, filled);
        String what = workers + " workers, thief " + thief + ", lines " + filled;
        int steals = 0;
        for (int step = 1; step < workers; step++) {
            int victim = (thief + step) % workers;
            if ((filled >> victim & 1) == 1) {
                for (int k = 0; k < 2; k++) {
                    steals++;
                    Due.is(what, x.begin(thief), workers + 2 * victim + k);
                    Due.is(what + ": steals", x.steals(), steals);
                    x.finish(thief, 0);
                }
            }
        }
        Due.is(what + ": no more", x.begin(thief), NONE);
        Due.is(what + ": steals in the end", x.steals(), steals);
        Due.is(what + ": over", x.state(), 4);
    }

    /**
     * In the line of each worker v in the set stand two tasks, workers + 2 * v and the next; all
     * other lines are empty, for the bodies of their workers failed.
     */
    private static SubflowExecutor lines(int workers, int filled) {
        SubflowExecutor x = Due.plain(workers, 3 * workers);
        for (int v = 0; v < workers; v++) {
            x.edge(v, workers + 2 * v);
            x.edge(v, workers + 2 * v + 1);
        }
        x.start(1);
        for (int v = 0; v < workers; v++) {
            x.begin(v);
        }
        for (int v = 0; v < workers; v++) {
            if ((filled >> v & 1) == 1) {
                x.finish(v, 0);
            } else {
                x.fail(v);
            }
        }
        return x;
    }

    /** "0 behind the highest": of two full lines it is 0's, whatever the number of workers. */
    private static void theHighestStealsFromZeroFirst() {
        for (int workers = 2; workers <= 4; workers++) {
            int highest = workers - 1;
            SubflowExecutor x = lines(workers, (1 << highest) - 1);
            Due.is(workers + " workers", x.begin(highest), workers);
            Due.is("a steal", x.steals(), 1);
            Due.line("what is left of line 0", x, 0, workers + 1);
            if (workers > 2) {
                Due.line("line 1 is whole", x, 1, workers + 2, workers + 3);
            }
        }
    }

    /** With one worker there is none behind it. */
    private static void aLoneWorkerStealsNothing() {
        SubflowExecutor x = Due.plain(1, 4);
        x.edge(0, 2);
        x.edge(2, 3);
        x.start(3);
        while (x.state() == 1) {
            Due.yes("takes", x.begin(0) != NONE);
            Due.is("ends", x.finish(0, 0), 1);
        }
        Due.is("runs of the last", x.runs(3), 3);
        Due.is("steals", x.steals(), 0);
    }

    /** "What is taken leaves its line." */
    private static void whatIsTakenLeavesItsLine() {
        SubflowExecutor x = Due.plain(2, 8);
        for (int b = 2; b < 5; b++) {
            x.edge(0, b);
        }
        x.start(1);
        Due.is("the shared first", x.begin(0), 0);
        Due.line("shared", x, 2, 1, 5, 6, 7);
        x.finish(0, 0);
        Due.is("its own last", x.begin(0), 4);
        Due.line("own", x, 0, 2, 3);
        for (int t : new int[] {1, 5, 6, 7}) {
            Due.step("shared", x, 1, t, 1);
        }
        Due.line("shared is empty", x, 2);
        Due.is("another's first", x.begin(1), 2);
        Due.line("another's", x, 0, 3);
        Due.is("where", x.where(2), Due.RUNNING + 1);
    }

    /** "what is put into a line stands behind the last of it" */
    private static void behindTheLastOfALine() {
        SubflowExecutor x = Due.plain(1, 6);
        x.edge(0, 2);
        x.edge(0, 1);
        x.edge(1, 5);
        x.edge(1, 3);
        x.edge(3, 4);
        x.start(1);
        Due.step("0", x, 0, 0, 1);
        Due.line("in the order of the edges", x, 0, 2, 1);
        Due.step("1", x, 0, 1, 1);
        Due.line("behind what stands", x, 0, 2, 5, 3);
        Due.step("3", x, 0, 3, 1);
        Due.line("behind what stands", x, 0, 2, 5, 4);
    }

    /** "at most 24": all of them in the shared line. */
    private static void aFullSharedLine() {
        SubflowExecutor x = Due.plain(4, 24);
        x.start(1);
        for (int k = 0; k < 24; k++) {
            Due.is("place " + k, x.lineAt(4, k), k);
        }
        Due.is("no place 24", x.lineAt(4, 24), NONE);
        Due.is("the first", x.begin(0), 0);
        Due.is("the last moves on", x.lineAt(4, 22), 23);
        Due.is("no place 23", x.lineAt(4, 23), NONE);
    }

    /** 23 children in a worker's own line: the most that can stand there. */
    private static void aFullOwnLine() {
        SubflowExecutor x = new SubflowExecutor(2);
        x.add(Due.DETACHED, NONE, 0);
        for (int t = 1; t < 24; t++) {
            x.add(Due.PLAIN, 0, 0);
        }
        x.start(1);
        Due.step("spawns", x, 1, 0, 1);
        for (int k = 0; k < 23; k++) {
            Due.is("place " + k, x.lineAt(1, k), k + 1);
        }
        Due.is("no place 23", x.lineAt(1, 23), NONE);
        Due.is("its own last", x.begin(1), 23);
        Due.is("another steals the first", x.begin(0), 1);
        Due.is("what is left", x.lineAt(1, 20), 22);
        Due.is("no place 21", x.lineAt(1, 21), NONE);
    }

    // Units, and PARKED.

    /** "a unit free (fewer units held than its capacity)": the last unit is one, the next not. */
    private static void unitsUpToTheCapacity() {
        for (int units = 1; units <= 3; units++) {
            SubflowExecutor x = new SubflowExecutor(4);
            for (int t = 0; t < 4; t++) {
                x.add(Due.PLAIN, NONE, 4);
            }
            x.capacity(2, units);
            x.start(1);
            for (int w = 0; w < units; w++) {
                Due.is("held before", x.held(2), w);
                Due.is("unit " + w, x.begin(w), w);
            }
            Due.is("no unit is left", x.begin(units), NONE);
            Due.is("parked", x.where(units), Due.PARKED);
            Due.is("held", x.held(2), units);
            x.finish(0, 0);
            Due.is("one is given back", x.held(2), units - 1);
            Due.is("and taken", x.begin(0), units);
        }
    }

    /** "of each semaphore in the needs": one that has none free is enough to be parked. */
    private static void aUnitOfEachSemaphore() {
        for (int s = 0; s < 4; s++) {
            SubflowExecutor x = new SubflowExecutor(2);
            x.add(Due.PLAIN, NONE, 1 << s);
            x.add(Due.PLAIN, NONE, 15);
            x.add(Due.PLAIN, NONE, 15 - (1 << s));
            x.start(1);
            Due.is("holds " + s, x.begin(0), 0);
            Due.is("needs all but " + s, x.begin(1), 2);
            Due.is("needs all", x.where(1), Due.PARKED);
            for (int each = 0; each < 4; each++) {
                Due.is("held " + each, x.held(each), 1);
            }
        }
    }

    /** "then the task holds one unit of each": otherwise of none, of a free one neither. */
    private static void noUnitIsHeldWhenParked() {
        SubflowExecutor x = new SubflowExecutor(2);
        x.add(Due.PLAIN, NONE, 8);
        x.add(Due.PLAIN, NONE, 15);
        x.start(1);
        x.begin(0);
        Due.is("parks", x.begin(1), NONE);
        for (int s = 0; s < 3; s++) {
            Due.is("held " + s, x.held(s), 0);
        }
        Due.is("held 3", x.held(3), 1);
        Due.is("it did not run", x.runs(1), 0);
    }

    /** "and the worker takes again; and so on until a task is running": no further. */
    private static void takesAgainUntilOneRuns() {
        SubflowExecutor x = new SubflowExecutor(2);
        int[] needs = {1, 1, 1, 0, 1, 0};
        for (int need : needs) {
            x.add(Due.PLAIN, NONE, need);
        }
        x.start(1);
        Due.is("holds the unit", x.begin(0), 0);
        Due.is("parks two", x.begin(1), 3);
        Due.is("parked", x.where(1), Due.PARKED);
        Due.is("parked", x.where(2), Due.PARKED);
        Due.line("the others stand", x, 2, 4, 5);
    }

    /** "or became so because all that it took were parked (they stay parked)" */
    private static void allThatWasTakenParked() {
        for (int count = 2; count <= 24; count++) {
            SubflowExecutor x = new SubflowExecutor(2);
            for (int t = 0; t < count; t++) {
                x.add(Due.PLAIN, NONE, 1);
            }
            x.start(1);
            Due.is("holds the unit", x.begin(0), 0);
            Due.is("parks all others", x.begin(1), NONE);
            Due.line("shared is empty", x, 2);
            Due.is("finds nothing now", x.begin(1), NONE);
            for (int t = 1; t < count; t++) {
                Due.is("stays parked", x.where(t), Due.PARKED);
                Due.is("did not run", x.runs(t), 0);
            }
            Due.is("the worker is free", x.finish(1, 0), NONE);
            Due.is("all wake", x.finish(0, 0), 1);
            Due.is("the first", x.lineAt(2, 0), 1);
            Due.is("the last", x.lineAt(2, count - 2), count - 1);
            Due.is("no more", x.lineAt(2, count - 1), NONE);
        }
    }

    /** One begin empties its own line, the shared one and those of others, and parks them all. */
    private static void parkedFromEveryLine() {
        SubflowExecutor x = new SubflowExecutor(4);
        for (int t = 0; t < 12; t++) {
            x.add(Due.PLAIN, NONE, t == 0 || t > 3 ? 1 : 0);
        }
        for (int t = 1; t <= 3; t++) {
            x.edge(t, 2 + 2 * t);
            x.edge(t, 3 + 2 * t);
        }
        x.start(1);
        Due.is("holds the unit", x.begin(3), 0);
        for (int w = 0; w < 3; w++) {
            Due.is("fills line " + w, x.begin(w), w + 1);
        }
        for (int w = 0; w < 3; w++) {
            x.finish(w, 0);
            Due.line("line " + w, x, w, 4 + 2 * w, 5 + 2 * w);
        }
        Due.line("shared", x, 4, 10, 11);
        Due.is("all are parked", x.begin(2), NONE);
        Due.is("steals, of lines 0 and 1", x.steals(), 4);
        for (int l = 0; l <= 4; l++) {
            Due.line("empty", x, l);
        }
        x.finish(3, 0);
        Due.line("in the order in which they were parked", x, 4, 9, 8, 10, 11, 4, 5, 6, 7);
    }

    /** "Otherwise it is PARKED, behind those that are" */
    private static void parkedBehindThoseThatAre() {
        SubflowExecutor x = new SubflowExecutor(3);
        int[] needs = {1, 2, 3, 2, 1};
        for (int need : needs) {
            x.add(Due.PLAIN, NONE, need);
        }
        x.start(1);
        Due.is("holds 0", x.begin(0), 0);
        Due.is("holds 1", x.begin(1), 1);
        Due.is("parks 2, 3, 4", x.begin(2), NONE);
        x.finish(0, 0);
        Due.line("2 and 4 wake", x, 3, 2, 4);
        Due.is("2 parks behind 3", x.begin(0), 4);
        x.finish(1, 0);
        Due.line("3 before 2", x, 3, 3, 2);
    }

    /**
     * "those PARKED tasks whose needs have a semaphore in common with the needs of this task": a
     * task is parked because of one that runs on, while another returns; for all their needs.
     */
    private static void wokenByASemaphoreInCommonOnly() {
        for (int goesOn = 1; goesOn <= 15; goesOn++) {
            for (int returns = 0; returns <= 15; returns++) {
                for (int parked = 1; parked <= 15; parked++) {
                    if ((goesOn & returns) == 0 && (goesOn & parked) != 0) {
                        wokenIfInCommon(goesOn, returns, parked);
                    }
                }
            }
        }
    }

    private static void wokenIfInCommon(int goesOn, int returns, int parked) {
        SubflowExecutor x = new SubflowExecutor(3);
        x.add(Due.PLAIN, NONE, goesOn);
        x.add(Due.PLAIN, NONE, returns);
        x.add(Due.PLAIN, NONE, parked);
        x.start(1);
        x.begin(0);
        x.begin(1);
        x.begin(2);
        String what = "needs " + goesOn + ", " + returns + ", " + parked;
        Due.is(what + ": parked", x.where(2), Due.PARKED);
        x.finish(1, 0);
        boolean wakes = (returns & parked) != 0;
        Due.is(what + ": one returns", x.where(2), wakes ? Due.SHARED : Due.PARKED);
        x.finish(0, 0);
        Due.is(what + ": both returned", x.where(2), Due.SHARED);
    }

    /** A task without needs has no semaphore in common with any. */
    private static void wokenByNoNeeds() {
        SubflowExecutor x = new SubflowExecutor(3);
        x.add(Due.PLAIN, NONE, 15);
        x.add(Due.PLAIN, NONE, 15);
        x.add(Due.PLAIN, NONE, 0);
        x.add(Due.PLAIN, NONE, 0);
        x.start(1);
        x.begin(0);
        Due.is("parks, then runs", x.begin(1), 2);
        Due.is("ends", x.finish(1, 0), 1);
        Due.is("parked still", x.where(1), Due.PARKED);
        x.begin(1);
        Due.is("fails", x.fail(1), 1);
        Due.is("parked still", x.where(1), Due.PARKED);
        x.finish(0, 0);
        Due.is("woken", x.where(1), Due.SHARED);
    }

    /** One in common is enough to wake it; it is parked again when another has no unit free. */
    private static void wokenThoughAnotherUnitIsMissing() {
        SubflowExecutor x = new SubflowExecutor(3);
        x.add(Due.PLAIN, NONE, 1);
        x.add(Due.PLAIN, NONE, 2);
        x.add(Due.PLAIN, NONE, 3);
        x.start(1);
        x.begin(0);
        x.begin(1);
        Due.is("parks", x.begin(2), NONE);
        x.finish(0, 0);
        Due.is("woken", x.where(2), Due.SHARED);
        Due.is("parks again", x.begin(2), NONE);
        Due.is("parked", x.where(2), Due.PARKED);
        Due.is("holds nothing", x.held(0), 0);
        x.finish(1, 0);
        Due.is("woken again", x.where(2), Due.SHARED);
        Due.is("runs", x.begin(2), 2);
    }

    /** "become READY and are put into the shared line": behind what stands there. */
    private static void wokenBehindTheSharedLine() {
        SubflowExecutor x = new SubflowExecutor(2);
        int[] needs = {1, 1, 0, 0, 0};
        for (int need : needs) {
            x.add(Due.PLAIN, NONE, need);
        }
        x.start(1);
        x.begin(0);
        Due.is("parks one", x.begin(1), 2);
        x.finish(0, 0);
        Due.line("behind", x, 2, 3, 4, 1);
        Due.line("not in the worker's own", x, 0);
    }
}
