/** Promise 10: cancel, and what a cancelled run does with bodies that still run. */
public final class CancelTest {
    private static final int NONE = Due.NONE;

    public static void main(String[] args) {
        cancelRefuses();
        cancelWithNothingRunningEndsTheRun();
        cancelCountsReadyAndParked();
        cancelledBodiesPassNothingOn();
        cancelledBodiesSpawnNothing();
        cancelEndsChildlessWaiting();
        cancelLeavesWaitingForRunning();
        aWaitingTaskThatEndsPassesNothingOn();
        aBodyMayFailAfterACancel();
        aCancelledRunHasNoNextRound();
        arrivalsStayWhenCancelled();
        cancelAfterAFailure();
        aNewRunAfterACancel();
        Due.close("CancelTest");
    }

    private static void cancelRefuses() {
        SubflowExecutor x = Due.plain(1, 2);
        Due.is("before a run", x.cancel(), NONE);
        Due.is("state before", x.state(), 0);
        x.start(1);
        x.begin(0);
        Due.is("cancel", x.cancel(), 1);
        Due.is("cancelled already", x.cancel(), NONE);
        Due.is("state", x.state(), 2);
        x.finish(0, 0);
        Due.is("when over", x.cancel(), NONE);
        Due.is("state when over", x.state(), 5);
        x.start(1);
        Due.step("new run", x, 0, 0, 1);
        Due.step("new run", x, 0, 1, 1);
        Due.is("when over, not cancelled", x.cancel(), NONE);
        Due.is("state stays", x.state(), 3);
    }

    private static void cancelWithNothingRunningEndsTheRun() {
        SubflowExecutor x = Due.plain(1, 3);
        x.start(4);
        Due.is("all three", x.cancel(), 3);
        Due.is("over", x.state(), 5);
        Due.is("one round", x.round(), 1);
        Due.line("empty", x, 1);
        for (int t = 0; t < 3; t++) {
            Due.is("idle " + t, x.where(t), Due.IDLE);
        }
    }

    private static void cancelCountsReadyAndParked() {
        SubflowExecutor x = new SubflowExecutor(3);
        x.add(0, NONE, 1);
        x.add(0, NONE, 0);
        x.add(0, NONE, 1);
        x.add(0, NONE, 1);
        x.add(0, NONE, 0);
        x.add(0, NONE, 0);
        x.add(0, NONE, 0);
        x.edge(1, 5);
        x.edge(1, 6);
        x.start(1);
        Due.is("runs", x.begin(0), 0);
        Due.step("fills line 1", x, 1, 1, 1);
        Due.is("parks two", x.begin(2), 4);
        x.finish(2, 0);
        Due.is("steals one", x.begin(2), 5);
        Due.is("parked", x.where(2), Due.PARKED);
        Due.is("ready", x.where(6), Due.READY + 1);
        Due.is("two parked, one ready", x.cancel(), 3);
        for (int l = 0; l <= 3; l++) {
            Due.line("empty", x, l);
        }
        int[] due = {Due.RUNNING, 0, 0, 0, 0, Due.RUNNING + 2, 0};
        for (int t = 0; t < 7; t++) {
            Due.is("where " + t, x.where(t), due[t]);
        }
        Due.is("the unit is held still", x.held(0), 1);
        Due.is("nothing to take", x.begin(1), NONE);
        Due.is("first", x.finish(0, 0), 1);
        Due.is("given back", x.held(0), 0);
        Due.line("nobody wakes", x, 3);
        Due.is("under way", x.state(), 2);
        Due.is("second", x.finish(2, 0), 1);
        Due.is("over", x.state(), 5);
    }

    private static void cancelledBodiesPassNothingOn() {
        for (int kind = 0; kind <= 3; kind++) {
            SubflowExecutor x = new SubflowExecutor(2);
            x.add(kind, NONE, 0);
            x.add(0, NONE, 0);
            x.add(0, NONE, 0);
            x.edge(0, 2);
            x.start(1);
            x.begin(0);
            x.begin(1);
            Due.is("none ready", x.cancel(), 0);
            Due.is("kind " + kind, x.finish(0, 0), 1);
            Due.is("kind " + kind + " passes nothing on", x.where(2), Due.IDLE);
            Due.is("kind " + kind + " no arrivals", x.arrivals(2), 0);
            Due.is("kind " + kind + " under way", x.state(), 2);
            x.finish(1, 0);
            Due.is("kind " + kind + " over", x.state(), 5);
        }
    }

    private static void cancelledBodiesSpawnNothing() {
        for (int kind = 2; kind <= 3; kind++) {
            SubflowExecutor x = new SubflowExecutor(1);
            x.add(kind, NONE, 0);
            x.add(0, 0, 0);
            x.start(1);
            x.begin(0);
            x.cancel();
            Due.is("kind " + kind + " ends", x.finish(0, 0), 1);
            Due.is("kind " + kind + " spawns nothing", x.where(1), Due.IDLE);
            Due.is("kind " + kind + " over", x.state(), 5);
        }
    }

    private static void cancelEndsChildlessWaiting() {
        SubflowExecutor x = new SubflowExecutor(1);
        x.add(2, NONE, 0);
        x.add(2, 0, 0);
        x.add(2, 1, 0);
        x.add(0, 2, 0);
        x.start(1);
        Due.step("level 0", x, 0, 0, 0);
        Due.step("level 1", x, 0, 1, 0);
        Due.step("level 2", x, 0, 2, 0);
        Due.is("one ready", x.cancel(), 1);
        for (int t = 0; t < 4; t++) {
            Due.is("idle " + t, x.where(t), Due.IDLE);
        }
        Due.is("over", x.state(), 5);
    }

    /** Two joined tasks wait; a child of the one runs, that of the other is only ready. */
    private static void cancelLeavesWaitingForRunning() {
        SubflowExecutor x = new SubflowExecutor(2);
        x.add(2, NONE, 0);
        x.add(2, NONE, 0);
        x.add(2, 0, 0);
        x.add(0, 2, 0);
        x.add(0, 1, 0);
        x.start(1);
        Due.step("first", x, 0, 0, 0);
        Due.is("second", x.begin(1), 1);
        Due.is("second waits", x.finish(1, 0), 0);
        Due.step("inner", x, 0, 2, 0);
        Due.is("its child runs", x.begin(0), 3);
        Due.is("one ready", x.cancel(), 1);
        Due.is("first waits", x.where(0), Due.WAITING);
        Due.is("inner waits", x.where(2), Due.WAITING);
        Due.is("second ended", x.where(1), Due.IDLE);
        Due.is("child runs", x.where(3), Due.RUNNING);
        Due.is("state", x.state(), 2);
        Due.is("all three end", x.finish(0, 0), 3);
        Due.is("over", x.state(), 5);
    }

    private static void aWaitingTaskThatEndsPassesNothingOn() {
        SubflowExecutor x = new SubflowExecutor(2);
        x.add(2, NONE, 0);
        x.add(0, NONE, 0);
        x.add(0, NONE, 0);
        x.add(0, 0, 0);
        x.add(0, 0, 0);
        x.edge(0, 1);
        x.start(1);
        Due.step("waits", x, 0, 0, 0);
        Due.is("another runs", x.begin(1), 2);
        Due.is("two children", x.cancel(), 2);
        Due.is("ended", x.where(0), Due.IDLE);
        Due.is("passed nothing on", x.where(1), Due.IDLE);
        Due.is("under way", x.state(), 2);
        x.finish(1, 0);
        Due.is("over", x.state(), 5);
        Due.is("successor did not run", x.runs(1), 0);
    }

    private static void aBodyMayFailAfterACancel() {
        SubflowExecutor x = new SubflowExecutor(1);
        x.add(2, NONE, 0);
        x.add(0, 0, 0);
        x.start(1);
        Due.step("waits", x, 0, 0, 0);
        x.begin(0);
        x.cancel();
        Due.is("no thrower", x.thrower(), NONE);
        Due.is("fails", x.fail(0), 2);
        Due.is("thrower", x.thrower(), 1);
        Due.is("cancelled it is", x.state(), 5);
    }

    private static void aCancelledRunHasNoNextRound() {
        SubflowExecutor x = Due.plain(1, 1);
        x.start(9);
        Due.step("round 1", x, 0, 0, 1);
        x.begin(0);
        x.cancel();
        x.finish(0, 0);
        Due.is("rounds", x.round(), 2);
        Due.is("over", x.state(), 5);
        Due.is("idle", x.where(0), Due.IDLE);
    }

    private static void arrivalsStayWhenCancelled() {
        SubflowExecutor x = Due.plain(2, 3);
        x.edge(0, 2);
        x.edge(1, 2);
        x.start(1);
        x.begin(0);
        x.begin(1);
        x.finish(0, 0);
        x.cancel();
        Due.is("as they were", x.arrivals(2), 1);
        x.finish(1, 0);
        Due.is("over", x.arrivals(2), 0);
        Due.is("not reached", x.runs(2), 0);
    }

    private static void cancelAfterAFailure() {
        SubflowExecutor x = Due.plain(1, 2);
        x.start(1);
        x.begin(0);
        x.fail(0);
        Due.is("one ready", x.cancel(), 1);
        Due.is("cancelled before failed", x.state(), 5);
        Due.is("thrower", x.thrower(), 0);
    }

    private static void aNewRunAfterACancel() {
        SubflowExecutor x = new SubflowExecutor(2);
        x.add(2, NONE, 1);
        x.add(0, 0, 1);
        x.add(0, NONE, 1);
        x.start(1);
        x.begin(0);
        Due.is("parks", x.begin(1), NONE);
        Due.is("one parked", x.cancel(), 1);
        Due.is("ends", x.finish(0, 0), 1);
        x.start(1);
        Due.line("both stand again", x, 2, 0, 2);
        Due.step("waits", x, 0, 0, 0);
        Due.line("nobody was parked any more", x, 2, 2);
        Due.is("runs", x.begin(1), 2);
        Due.is("parks again", x.begin(0), NONE);
        Due.is("parked", x.where(1), Due.PARKED);
    }
}
