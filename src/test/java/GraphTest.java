/** Promises 1 to 5: a new object, add, edge, capacity, check. */
public final class GraphTest {
    private static final int NONE = Due.NONE;

    public static void main(String[] args) {
        newObject();
        workersAreHeldToOneToFour();
        addAnswersNumbers();
        addRefusesWrongInputs();
        addRefusesWrongParents();
        addRefusesLevelFour();
        addRefusesATwentyFifthTask();
        addRefusesDuringARun();
        edgeJoinsOneGroupOnly();
        edgeRefusesWrongInputs();
        edgeRefusesASeventh();
        edgesKeepTheirOrder();
        capacityRefusesWrongInputs();
        capacityCountsUnits();
        aRefusedCapacityChangesNothing();
        checkNoTask();
        checkGroupWithoutSource();
        checkAllTasksWithoutSource();
        checkStrongCycle();
        checkInOrder();
        checkDuringARun();
        Due.close("GraphTest");
    }

    private static void newObject() {
        SubflowExecutor x = new SubflowExecutor(2);
        Due.is("new: check", x.check(), 1);
        Due.is("new: state", x.state(), 0);
        Due.is("new: thrower", x.thrower(), NONE);
        Due.is("new: round", x.round(), 0);
        Due.is("new: lost", x.lost(), 0);
        Due.is("new: steals", x.steals(), 0);
        Due.is("new: runs", x.runs(0), 0);
        Due.is("new: arrivals", x.arrivals(0), 0);
        Due.is("new: where", x.where(0), NONE);
        for (int l = -1; l <= 3; l++) {
            Due.is("new: lineAt " + l, x.lineAt(l, 0), NONE);
        }
        for (int s = 0; s < 4; s++) {
            Due.is("new: held " + s, x.held(s), 0);
        }
        Due.is("new: begin", x.begin(0), NONE);
        Due.is("new: finish", x.finish(0, 0), NONE);
        Due.is("new: fail", x.fail(0), NONE);
        Due.is("new: cancel", x.cancel(), NONE);
        Due.no("new: start", x.start(1));
        Due.is("new: first task", x.add(0, NONE, 0), 0);
    }

    private static void workersAreHeldToOneToFour() {
        int[] asked = {Integer.MIN_VALUE, -1, 0, 1, 2, 3, 4, 5, Integer.MAX_VALUE};
        int[] due = {1, 1, 1, 1, 2, 3, 4, 4, 4};
        for (int i = 0; i < asked.length; i++) {
            SubflowExecutor x = Due.plain(asked[i], 6);
            x.start(1);
            Due.line("workers " + asked[i], x, due[i], 0, 1, 2, 3, 4, 5);
            Due.is("workers " + asked[i] + ": no line behind", x.lineAt(due[i] + 1, 0), NONE);
            for (int w = 0; w < due[i]; w++) {
                Due.is("workers " + asked[i] + ": begin " + w, x.begin(w), w);
            }
            Due.is("workers " + asked[i] + ": one too many", x.begin(due[i]), NONE);
        }
    }

    private static void addAnswersNumbers() {
        SubflowExecutor x = new SubflowExecutor(1);
        Due.is("add plain", x.add(0, NONE, 0), 0);
        Due.is("add choice", x.add(1, NONE, 15), 1);
        Due.is("add joined", x.add(2, NONE, 1), 2);
        Due.is("add detached", x.add(3, NONE, 8), 3);
        Due.is("add a child of joined", x.add(0, 2, 0), 4);
        Due.is("add a child of detached", x.add(0, 3, 0), 5);
        Due.is("where of the last", x.where(5), 0);
        Due.is("where behind the last", x.where(6), NONE);
    }

    private static void addRefusesWrongInputs() {
        SubflowExecutor x = new SubflowExecutor(1);
        int[] kinds = {-1, 4, Integer.MIN_VALUE, Integer.MAX_VALUE};
        for (int kind : kinds) {
            Due.is("add kind " + kind, x.add(kind, NONE, 0), NONE);
        }
        int[] needs = {-1, 16, 17, Integer.MIN_VALUE, Integer.MAX_VALUE};
        for (int need : needs) {
            Due.is("add needs " + need, x.add(0, NONE, need), NONE);
        }
        Due.is("nothing was added", x.check(), 1);
        Due.is("the next number", x.add(0, NONE, 0), 0);
    }

    private static void addRefusesWrongParents() {
        SubflowExecutor x = new SubflowExecutor(1);
        Due.is("itself as parent", x.add(2, 0, 0), NONE);
        x.add(0, NONE, 0);
        x.add(1, NONE, 0);
        x.add(2, NONE, 0);
        Due.is("a plain parent", x.add(0, 0, 0), NONE);
        Due.is("a choice as parent", x.add(0, 1, 0), NONE);
        Due.is("no task as parent", x.add(0, 3, 0), NONE);
        Due.is("parent -2", x.add(0, -2, 0), NONE);
        Due.is("parent 24", x.add(0, 24, 0), NONE);
        Due.is("parent least", x.add(0, Integer.MIN_VALUE, 0), NONE);
        Due.is("parent most", x.add(0, Integer.MAX_VALUE, 0), NONE);
        Due.is("the next number", x.add(0, 2, 0), 3);
    }

    private static void addRefusesLevelFour() {
        SubflowExecutor x = new SubflowExecutor(1);
        Due.is("level 0", x.add(2, NONE, 0), 0);
        Due.is("level 1", x.add(3, 0, 0), 1);
        Due.is("level 2", x.add(2, 1, 0), 2);
        Due.is("level 3", x.add(3, 2, 0), 3);
        Due.is("level 4", x.add(0, 3, 0), NONE);
        Due.is("level 3 again", x.add(0, 2, 0), 4);
    }

    private static void addRefusesATwentyFifthTask() {
        SubflowExecutor x = new SubflowExecutor(1);
        for (int t = 0; t < 24; t++) {
            Due.is("task " + t, x.add(2, NONE, 0), t);
        }
        Due.is("task 24", x.add(0, NONE, 0), NONE);
        Due.is("task 24 as a child", x.add(0, 0, 0), NONE);
        Due.is("where 23", x.where(23), 0);
        Due.is("where 24", x.where(24), NONE);
        Due.yes("24 tasks start", x.start(1));
        Due.is("the last of them is ready", x.lineAt(1, 23), 23);
    }

    private static void addRefusesDuringARun() {
        SubflowExecutor x = Due.plain(1, 1);
        x.start(1);
        Due.is("add while ready", x.add(0, NONE, 0), NONE);
        Due.no("edge while ready", x.edge(0, 0));
        Due.no("capacity while ready", x.capacity(0, 2));
        x.begin(0);
        x.cancel();
        Due.is("add while cancelled", x.add(0, NONE, 0), NONE);
        Due.no("edge while cancelled", x.edge(0, 0));
        Due.no("capacity while cancelled", x.capacity(0, 2));
        x.finish(0, 0);
        Due.is("add when over", x.add(0, NONE, 0), 1);
        Due.yes("edge when over", x.edge(0, 1));
        Due.yes("capacity when over", x.capacity(0, 2));
    }

    private static void edgeJoinsOneGroupOnly() {
        SubflowExecutor x = new SubflowExecutor(1);
        x.add(2, NONE, 0);
        x.add(3, NONE, 0);
        x.add(0, 0, 0);
        x.add(0, 0, 0);
        x.add(0, 1, 0);
        Due.yes("both without a parent", x.edge(0, 1));
        Due.yes("children of one task", x.edge(2, 3));
        Due.no("children of two tasks", x.edge(2, 4));
        Due.no("parent to child", x.edge(0, 2));
        Due.no("child to parent", x.edge(2, 0));
        Due.no("child to another without a parent", x.edge(2, 1));
        Due.is("check", x.check(), 0);
    }

    private static void edgeRefusesWrongInputs() {
        SubflowExecutor x = Due.plain(1, 2);
        int[] wrong = {-1, 2, 24, Integer.MIN_VALUE, Integer.MAX_VALUE};
        for (int t : wrong) {
            Due.no("edge from " + t, x.edge(t, 0));
            Due.no("edge to " + t, x.edge(0, t));
        }
        Due.no("edge from none to none", x.edge(NONE, NONE));
        Due.yes("edge", x.edge(0, 1));
        Due.no("the same edge", x.edge(0, 1));
        Due.yes("the edge back", x.edge(1, 0));
        Due.yes("an edge to itself", x.edge(0, 0));
        Due.no("the same edge to itself", x.edge(0, 0));
    }

    private static void edgeRefusesASeventh() {
        SubflowExecutor x = Due.plain(1, 8);
        for (int b = 1; b <= 6; b++) {
            Due.yes("edge to " + b, x.edge(0, b));
        }
        Due.no("a seventh edge", x.edge(0, 7));
        Due.yes("many edges into one task", x.edge(1, 7));
        x.start(1);
        x.begin(0);
        x.finish(0, 0);
        Due.line("six edges", x, 0, 1, 2, 3, 4, 5, 6);
        SubflowExecutor y = Due.plain(1, 9);
        for (int a = 0; a < 8; a++) {
            Due.yes("edge from " + a, y.edge(a, 8));
        }
    }

    private static void edgesKeepTheirOrder() {
        SubflowExecutor x = new SubflowExecutor(1);
        x.add(1, NONE, 0);
        x.add(0, NONE, 0);
        x.add(0, NONE, 0);
        x.add(0, NONE, 0);
        x.edge(0, 3);
        x.edge(0, 1);
        x.edge(0, 1);
        x.edge(0, 2);
        int[] due = {3, 1, 2};
        for (int c = 0; c < 3; c++) {
            x.start(1);
            x.begin(0);
            x.finish(0, c);
            Due.line("edge number " + c, x, 0, due[c]);
            x.cancel();
        }
    }

    private static void capacityRefusesWrongInputs() {
        SubflowExecutor x = new SubflowExecutor(1);
        int[] semaphores = {-1, 4, Integer.MIN_VALUE, Integer.MAX_VALUE};
        for (int s : semaphores) {
            Due.no("capacity of " + s, x.capacity(s, 1));
        }
        int[] units = {-1, 0, 5, Integer.MIN_VALUE, Integer.MAX_VALUE};
        for (int u : units) {
            Due.no("capacity " + u, x.capacity(0, u));
        }
        for (int s = 0; s < 4; s++) {
            Due.yes("capacity of " + s + " least", x.capacity(s, 1));
            Due.yes("capacity of " + s + " most", x.capacity(s, 4));
        }
    }

    /** Five tasks that need semaphore s, four workers: as many run as there are units. */
    private static void capacityCountsUnits() {
        for (int s = 0; s < 4; s++) {
            for (int units = 1; units <= 4; units++) {
                SubflowExecutor x = new SubflowExecutor(4);
                for (int t = 0; t < 5; t++) {
                    x.add(0, NONE, 1 << s);
                }
                if (units > 1) {
                    x.capacity(s, units);
                }
                x.start(1);
                for (int w = 0; w < 4; w++) {
                    Due.is("semaphore " + s + " of " + units + ", worker " + w,
                            x.begin(w), w < units ? w : NONE);
                }
                Due.is("semaphore " + s + " of " + units + ", held", x.held(s), units);
            }
        }
    }

    private static void aRefusedCapacityChangesNothing() {
        SubflowExecutor x = new SubflowExecutor(2);
        x.add(0, NONE, 1);
        x.add(0, NONE, 1);
        x.capacity(0, 2);
        x.capacity(0, 0);
        x.capacity(0, 5);
        x.start(1);
        x.capacity(0, 1);
        Due.is("first unit", x.begin(0), 0);
        Due.is("second unit", x.begin(1), 1);
    }

    private static void checkNoTask() {
        SubflowExecutor x = new SubflowExecutor(1);
        Due.is("no task", x.check(), 1);
        x.add(0, NONE, 0);
        Due.is("one task", x.check(), 0);
    }

    private static void checkGroupWithoutSource() {
        SubflowExecutor x = new SubflowExecutor(1);
        x.add(1, NONE, 0);
        x.edge(0, 0);
        Due.is("a weak edge to itself", x.check(), 2);
        x.add(2, NONE, 0);
        Due.is("a source beside it", x.check(), 0);
        x.add(1, 1, 0);
        Due.is("a child that is a source", x.check(), 0);
        x.edge(2, 2);
        Due.is("children without a source", x.check(), 2);
        Due.no("start without a source", x.start(1));
        x.add(0, 1, 0);
        Due.is("children with a source", x.check(), 0);
        x.edge(2, 3);
        Due.is("a weak edge makes no source", x.check(), 2);
        x.add(2, NONE, 0);
        x.add(0, 4, 0);
        Due.is("the source of another group does not count", x.check(), 2);
    }

    private static void checkAllTasksWithoutSource() {
        SubflowExecutor x = new SubflowExecutor(1);
        for (int t = 0; t < 24; t++) {
            x.add(1, NONE, 0);
            x.edge(t, t);
        }
        Due.is("24 tasks, none a source", x.check(), 2);
    }

    private static void checkStrongCycle() {
        SubflowExecutor x = Due.plain(1, 2);
        x.edge(1, 1);
        Due.is("a strong edge to itself", x.check(), 3);
        Due.no("start with a cycle", x.start(1));

        SubflowExecutor y = Due.plain(1, 4);
        y.edge(0, 1);
        y.edge(1, 2);
        y.edge(0, 2);
        y.edge(2, 3);
        y.edge(1, 3);
        Due.is("two ways are no cycle", y.check(), 0);
        y.edge(3, 1);
        Due.is("a cycle of three", y.check(), 3);

        SubflowExecutor z = new SubflowExecutor(1);
        z.add(0, NONE, 0);
        z.add(0, NONE, 0);
        z.add(1, NONE, 0);
        z.edge(0, 1);
        z.edge(1, 2);
        z.edge(2, 1);
        Due.is("a weak edge breaks the cycle", z.check(), 0);

        SubflowExecutor all = Due.plain(1, 24);
        for (int t = 23; t > 0; t--) {
            all.edge(t, t - 1);
        }
        Due.is("a chain of all tasks", all.check(), 0);
        all.edge(0, 22);
        Due.is("a cycle of all but the first", all.check(), 3);

        SubflowExecutor up = Due.plain(1, 24);
        for (int t = 0; t < 23; t++) {
            up.edge(t, t + 1);
        }
        Due.is("a chain upwards", up.check(), 0);
        up.edge(23, 22);
        Due.is("a cycle at its end", up.check(), 3);

        SubflowExecutor child = new SubflowExecutor(1);
        child.add(2, NONE, 0);
        child.add(3, 0, 0);
        child.add(2, 0, 0);
        child.add(0, 0, 0);
        child.edge(1, 2);
        child.edge(2, 3);
        child.edge(3, 2);
        Due.is("a cycle of children", child.check(), 3);
    }

    private static void checkInOrder() {
        SubflowExecutor x = new SubflowExecutor(1);
        x.add(0, NONE, 0);
        x.edge(0, 0);
        Due.is("no source before a cycle", x.check(), 2);
        x.add(0, NONE, 0);
        Due.is("then the cycle", x.check(), 3);
        x.add(2, NONE, 0);
        x.add(1, 2, 0);
        x.edge(3, 3);
        Due.is("no source of children before a cycle", x.check(), 2);
    }

    private static void checkDuringARun() {
        SubflowExecutor x = Due.plain(1, 1);
        x.start(1);
        Due.is("check under way", x.check(), 0);
        x.begin(0);
        Due.is("check while one runs", x.check(), 0);
        x.cancel();
        Due.is("check while cancelled", x.check(), 0);
    }
}
