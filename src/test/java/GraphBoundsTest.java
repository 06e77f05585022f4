/**
 * The bounds of the graph: each sentence of the terms and of promises 1 to 5 that names one has
 * its own test, and stands above it.
 */
public final class GraphBoundsTest {
    private static final int NONE = Due.NONE;
    private static final int LEAST = Integer.MIN_VALUE;
    private static final int MOST = Integer.MAX_VALUE;

    public static void main(String[] args) {
        fewerThanOneWorker();
        moreThanFourWorkers();
        oneToFourWorkers();
        numbersGoOnAsTasksAreAdded();
        twentyFourTasks();
        aFullGraphTakesNoChildren();
        kindsOutOfRange();
        needsOutOfRange();
        needsOfNoneAndOfAll();
        parentsThatAreNoTask();
        parentsThatHoldNoChildren();
        parentsThatHoldChildren();
        levelsOfThreeAndFour();
        edgesOfNoTask();
        edgesBetweenGroups();
        edgesToItself();
        edgesThatAreThere();
        edgesBackAreOthers();
        sixEdgesOutOfOneTask();
        sixEdgesOfAChoice();
        refusedEdgesDoNotCount();
        twentyThreeEdgesIntoOneTask();
        semaphoresOutOfRange();
        unitsOutOfRange();
        capacityIsOneAtFirst();
        capacityOfEachSize();
        capacitiesAreApart();
        changedBetweenRunsOnly();
        checkOfAnEmptyGraph();
        checkOfAGroupWithoutTasks();
        checkOfTheTopWithoutASource();
        checkOfEachGroupWithoutASource();
        checkOfAWeakEdgeToASource();
        checkOfStrongCyclesOfEachLength();
        checkOfCyclesWithAWeakEdge();
        checkOfACycleBesideASource();
        checkOfTheFirstThatHolds();
        checkInEachStateOfARun();
        Due.close("GraphBoundsTest");
    }

    // Promise 1.

    /** "one worker when workers is below 1" */
    private static void fewerThanOneWorker() {
        for (int asked : new int[] {0, -1, -2, LEAST}) {
            hasWorkers("asked for " + asked, asked, 1);
        }
    }

    /** "four when it is above 4" */
    private static void moreThanFourWorkers() {
        for (int asked : new int[] {5, 6, 24, MOST}) {
            hasWorkers("asked for " + asked, asked, 4);
        }
    }

    /** "workers 0 .. workers - 1" */
    private static void oneToFourWorkers() {
        for (int asked = 1; asked <= 4; asked++) {
            hasWorkers("asked for " + asked, asked, asked);
        }
    }

    private static void hasWorkers(String what, int asked, int due) {
        SubflowExecutor x = Due.plain(asked, 5);
        x.start(1);
        Due.is(what + ": shared line", x.lineAt(due, 0), 0);
        for (int w = 0; w < due; w++) {
            Due.is(what + ": worker " + w, x.begin(w), w);
        }
        Due.is(what + ": no worker " + due, x.begin(due), NONE);
        Due.is(what + ": no line " + (due + 1), x.lineAt(due + 1, 0), NONE);
        Due.is(what + ": what is left", x.lineAt(due, 0), due);
    }

    // Promise 2, and GRAPH.

    /** "TASKS are numbered 0, 1, .. as they are added": one that was refused has no number. */
    private static void numbersGoOnAsTasksAreAdded() {
        SubflowExecutor x = new SubflowExecutor(1);
        for (int t = 0; t < 6; t++) {
            Due.is("refused kind", x.add(4, NONE, 0), NONE);
            Due.is("refused parent", x.add(0, t, 0), NONE);
            Due.is("refused needs", x.add(0, NONE, 16), NONE);
            Due.is("not there yet", x.where(t), NONE);
            Due.is("number", x.add(t % 2, NONE, 0), t);
            Due.is("there", x.where(t), Due.IDLE);
        }
    }

    /** "at most 24"; "Refused: 24 tasks are there" */
    private static void twentyFourTasks() {
        for (int kind = 0; kind <= 3; kind++) {
            SubflowExecutor x = Due.plain(1, 23);
            Due.is("the 24th, of kind " + kind, x.add(kind, NONE, 0), 23);
            for (int next = 0; next <= 3; next++) {
                Due.is("the 25th, of kind " + next, x.add(next, NONE, 0), NONE);
            }
            Due.is("there is no 25th", x.where(24), NONE);
            x.start(1);
            Due.is("the 24th is ready", x.lineAt(1, 23), 23);
            Due.is("and the last", x.lineAt(1, 24), NONE);
        }
    }

    /** "24 tasks are there", with a parent as without one. */
    private static void aFullGraphTakesNoChildren() {
        SubflowExecutor x = new SubflowExecutor(1);
        x.add(Due.JOINED, NONE, 0);
        for (int t = 1; t < 24; t++) {
            Due.is("child", x.add(Due.DETACHED, 0, 0), t);
        }
        Due.is("no more children", x.add(0, 0, 0), NONE);
        Due.is("no child of the last", x.add(0, 23, 0), NONE);
    }

    /** "a kind 0 .. 3"; "Refused: kind or needs are out of range" */
    private static void kindsOutOfRange() {
        SubflowExecutor x = new SubflowExecutor(1);
        for (int kind : new int[] {-1, 4, 5, LEAST, MOST}) {
            Due.is("kind " + kind, x.add(kind, NONE, 0), NONE);
        }
        for (int kind = 0; kind <= 3; kind++) {
            Due.is("kind " + kind, x.add(kind, NONE, 0), kind);
        }
    }

    /** "0 .. 15"; "Refused: kind or needs are out of range" */
    private static void needsOutOfRange() {
        SubflowExecutor x = new SubflowExecutor(1);
        for (int needs : new int[] {-1, -16, 16, 31, 32, LEAST, MOST}) {
            Due.is("needs " + needs, x.add(0, NONE, needs), NONE);
        }
        for (int needs = 0; needs <= 15; needs++) {
            Due.is("needs " + needs, x.add(0, NONE, needs), needs);
        }
    }

    /** "bit s, worth 2 to the power of s, for semaphore s": none, each alone, all. */
    private static void needsOfNoneAndOfAll() {
        for (int needs = 0; needs <= 15; needs++) {
            SubflowExecutor x = new SubflowExecutor(1);
            x.add(0, NONE, needs);
            x.start(1);
            x.begin(0);
            for (int s = 0; s < 4; s++) {
                Due.is("needs " + needs + ", semaphore " + s, x.held(s), needs >> s & 1);
            }
        }
    }

    /** "Refused: parent is neither NONE nor a JOINED or DETACHED task": it is no task. */
    private static void parentsThatAreNoTask() {
        for (int count = 0; count <= 2; count++) {
            SubflowExecutor x = new SubflowExecutor(1);
            for (int t = 0; t < count; t++) {
                x.add(Due.JOINED, NONE, 0);
            }
            for (int parent : new int[] {count, count + 1, 23, 24, -2, LEAST, MOST}) {
                Due.is(count + " tasks, parent " + parent, x.add(0, parent, 0), NONE);
            }
            Due.is("none was added", x.where(count), NONE);
        }
    }

    /** The same: it is PLAIN or a CHOICE. */
    private static void parentsThatHoldNoChildren() {
        SubflowExecutor x = new SubflowExecutor(1);
        x.add(Due.PLAIN, NONE, 0);
        x.add(Due.CHOICE, NONE, 0);
        x.add(Due.JOINED, NONE, 0);
        x.add(Due.PLAIN, 2, 0);
        x.add(Due.CHOICE, 2, 0);
        for (int parent : new int[] {0, 1, 3, 4}) {
            for (int kind = 0; kind <= 3; kind++) {
                Due.is("kind " + kind + " under " + parent, x.add(kind, parent, 0), NONE);
            }
        }
        Due.is("none was added", x.where(5), NONE);
    }

    /** "with a parent (NONE: none)": a task of any kind under a JOINED or DETACHED one. */
    private static void parentsThatHoldChildren() {
        for (int above = Due.JOINED; above <= Due.DETACHED; above++) {
            SubflowExecutor x = new SubflowExecutor(1);
            x.add(above, NONE, 0);
            for (int kind = 0; kind <= 3; kind++) {
                Due.is("kind " + kind + " under " + above, x.add(kind, 0, 0), 1 + kind);
            }
            x.start(1);
            Due.line("children are not begun", x, 1, 0);
        }
    }

    /** "a LEVEL .. at most 3"; "Refused: its level would be 4": under each row of kinds. */
    private static void levelsOfThreeAndFour() {
        for (int row = 0; row < 16; row++) {
            SubflowExecutor x = new SubflowExecutor(1);
            for (int level = 0; level <= 3; level++) {
                int kind = (row >> level & 1) == 0 ? Due.JOINED : Due.DETACHED;
                Due.is("row " + row + ", level " + level, x.add(kind, level - 1, 0), level);
            }
            for (int kind = 0; kind <= 3; kind++) {
                Due.is("row " + row + ", level 4, kind " + kind, x.add(kind, 3, 0), NONE);
            }
            for (int level = 0; level <= 3; level++) {
                Due.is("row " + row + ", beside " + level, x.add(0, level - 1, 0), 4 + level);
            }
        }
    }

    // Promise 3, and EDGES.

    /** "Refused: a or b is no task" */
    private static void edgesOfNoTask() {
        Due.no("in an empty graph", new SubflowExecutor(1).edge(0, 0));
        Due.no("none in an empty graph", new SubflowExecutor(1).edge(NONE, NONE));
        SubflowExecutor x = Due.plain(1, 3);
        for (int t : new int[] {NONE, -2, 3, 4, 23, 24, LEAST, MOST}) {
            Due.no("from " + t, x.edge(t, 1));
            Due.no("to " + t, x.edge(1, t));
            Due.no("from and to " + t, x.edge(t, t));
        }
        Due.yes("from the first to the last", x.edge(0, 2));
        Due.yes("from the last to the first", x.edge(2, 0));
    }

    /** "Refused: they are not in the same group" */
    private static void edgesBetweenGroups() {
        SubflowExecutor x = new SubflowExecutor(1);
        int[] parents = {NONE, NONE, 0, 0, 1, 1, 2, 2};
        for (int t = 0; t < 8; t++) {
            x.add(t % 2 == 0 ? Due.JOINED : Due.DETACHED, parents[t], 0);
        }
        for (int a = 0; a < 8; a++) {
            for (int b = 0; b < 8; b++) {
                Due.is("from " + a + " to " + b, x.edge(a, b) ? 1 : 0,
                        parents[a] == parents[b] ? 1 : 0);
            }
        }
    }

    /** "to a task of the same group (itself perhaps)" */
    private static void edgesToItself() {
        for (int kind = 0; kind <= 3; kind++) {
            SubflowExecutor x = Due.plain(1, 1);
            x.add(kind, NONE, 0);
            Due.yes("kind " + kind + " to itself", x.edge(1, 1));
            Due.no("kind " + kind + " to itself again", x.edge(1, 1));
        }
    }

    /** "Refused: an edge from a to b is there": the first, one between, the sixth. */
    private static void edgesThatAreThere() {
        SubflowExecutor x = Due.plain(1, 8);
        for (int b = 1; b <= 6; b++) {
            Due.yes("to " + b, x.edge(0, b));
            for (int there = 1; there <= b; there++) {
                Due.no("to " + there + " again", x.edge(0, there));
            }
        }
        x.start(1);
        Due.step("each once", x, 0, 0, 1);
        Due.line("each once", x, 0, 1, 2, 3, 4, 5, 6);
    }

    /** The edge from b to a is another one than that from a to b. */
    private static void edgesBackAreOthers() {
        SubflowExecutor x = Due.plain(1, 2);
        Due.yes("there", x.edge(0, 1));
        Due.yes("and back", x.edge(1, 0));
        Due.no("back again", x.edge(1, 0));
    }

    /** "at most 6 out of one task"; "Refused: a has 6 edges" */
    private static void sixEdgesOutOfOneTask() {
        for (int kind = 0; kind <= 3; kind++) {
            SubflowExecutor x = new SubflowExecutor(1);
            for (int t = 0; t < 9; t++) {
                x.add(kind, NONE, 0);
            }
            Due.yes("kind " + kind + " to itself", x.edge(8, 8));
            for (int b = 0; b < 5; b++) {
                Due.yes("kind " + kind + " to " + b, x.edge(8, b));
            }
            Due.no("a seventh", x.edge(8, 5));
            Due.no("another seventh", x.edge(8, 7));
            Due.yes("out of another task", x.edge(7, 5));
        }
    }

    /** "the edges out of a task are counted 0, 1, ..": the sixth is number 5. */
    private static void sixEdgesOfAChoice() {
        SubflowExecutor x = Due.plain(1, 7);
        x.add(Due.CHOICE, NONE, 0);
        for (int e = 0; e < 6; e++) {
            x.edge(7, 6 - e);
        }
        Due.no("the seventh", x.edge(7, 0));
        for (int c = 0; c <= 6; c++) {
            x.start(1);
            Due.step("the source", x, 0, 0, 1);
            Due.is("the choice", x.begin(0), 7);
            Due.is("answers " + c, x.finish(0, c), 1);
            Due.is("reaches", x.lineAt(0, 0), c < 6 ? 6 - c : NONE);
            x.cancel();
        }
    }

    /** "A call that is refused changes nothing": it takes none of the six places. */
    private static void refusedEdgesDoNotCount() {
        SubflowExecutor x = Due.plain(1, 7);
        x.add(Due.JOINED, NONE, 0);
        x.add(Due.PLAIN, 7, 0);
        for (int b = 1; b <= 6; b++) {
            Due.no("to a child", x.edge(0, 8));
            Due.no("to no task", x.edge(0, 9));
            Due.yes("to " + b, x.edge(0, b));
            Due.no("to " + b + " again", x.edge(0, b));
        }
    }

    /** "at most 6 out of one task": into one task there may lead an edge from each. */
    private static void twentyThreeEdgesIntoOneTask() {
        SubflowExecutor x = Due.plain(1, 24);
        for (int a = 0; a < 23; a++) {
            Due.yes("from " + a, x.edge(a, 23));
        }
        x.start(1);
        for (int a = 0; a < 23; a++) {
            Due.is("arrivals", x.arrivals(23), a);
            Due.is("not reached", x.where(23), Due.IDLE);
            Due.step("source", x, 0, a, 1);
        }
        Due.is("all arrived", x.arrivals(23), 0);
        Due.is("reached", x.where(23), Due.READY);
    }

    // Promise 4, and SEMAPHORE.

    /** "Refused: s is not 0 .. 3" */
    private static void semaphoresOutOfRange() {
        SubflowExecutor x = new SubflowExecutor(1);
        for (int s : new int[] {-1, 4, 5, LEAST, MOST}) {
            for (int units = 1; units <= 4; units++) {
                Due.no("semaphore " + s + ", " + units, x.capacity(s, units));
            }
        }
        for (int s = 0; s < 4; s++) {
            Due.yes("semaphore " + s, x.capacity(s, 2));
        }
    }

    /** "Refused: units is not 1 .. 4": the capacity stays as it was. */
    private static void unitsOutOfRange() {
        for (int units : new int[] {0, -1, 5, 6, LEAST, MOST}) {
            for (int s = 0; s < 4; s++) {
                SubflowExecutor x = needing(1 << s);
                x.capacity(s, 3);
                Due.no("semaphore " + s + ", " + units, x.capacity(s, units));
                Due.is("semaphore " + s + " keeps its units", runningAtOnce(x), 3);
            }
        }
    }

    /** "a CAPACITY from 1 to 4, at first 1" */
    private static void capacityIsOneAtFirst() {
        for (int s = 0; s < 4; s++) {
            Due.is("semaphore " + s, runningAtOnce(needing(1 << s)), 1);
        }
    }

    /** "The capacity of semaphore s becomes units": upwards and downwards, the latest counts. */
    private static void capacityOfEachSize() {
        for (int s = 0; s < 4; s++) {
            for (int before = 1; before <= 4; before++) {
                for (int units = 1; units <= 4; units++) {
                    SubflowExecutor x = needing(1 << s);
                    Due.yes("before", x.capacity(s, before));
                    Due.yes("units", x.capacity(s, units));
                    Due.is("semaphore " + s, runningAtOnce(x), units);
                    Due.is("held", x.held(s), units);
                }
            }
        }
    }

    /** One semaphore's capacity is not that of another. */
    private static void capacitiesAreApart() {
        for (int s = 0; s < 4; s++) {
            SubflowExecutor x = needing(1 << s);
            for (int other = 0; other < 4; other++) {
                x.capacity(other, other == s ? 2 : 4);
            }
            Due.is("semaphore " + s, runningAtOnce(x), 2);
        }
    }

    /** Four workers and five tasks with the same needs. */
    private static SubflowExecutor needing(int needs) {
        SubflowExecutor x = new SubflowExecutor(4);
        for (int t = 0; t < 5; t++) {
            x.add(Due.PLAIN, NONE, needs);
        }
        return x;
    }

    private static int runningAtOnce(SubflowExecutor x) {
        x.start(1);
        int running = 0;
        for (int w = 0; w < 4; w++) {
            running += x.begin(w) == NONE ? 0 : 1;
        }
        return running;
    }

    /** "Tasks, edges and capacities can be changed only while no run is under way." */
    private static void changedBetweenRunsOnly() {
        SubflowExecutor x = new SubflowExecutor(2);
        x.add(0, NONE, 1);
        x.add(0, NONE, 1);
        x.start(2);
        for (int round = 1; round <= 2; round++) {
            refusesChanges("ready", x);
            Due.is("runs", x.begin(0), 0);
            refusesChanges("running", x);
            Due.is("parks, for the capacity is 1 still", x.begin(1), NONE);
            refusesChanges("parked", x);
            x.finish(0, 0);
            refusesChanges("ready again", x);
            Due.step("the other", x, 0, 1, 1);
        }
        Due.yes("capacity", x.capacity(0, 2));
        Due.is("add", x.add(0, NONE, 0), 2);
        Due.yes("edge", x.edge(0, 2));
        x.start(1);
        Due.line("the third is no source", x, 2, 0, 1);
        Due.is("the first unit", x.begin(0), 0);
        Due.is("the second unit", x.begin(1), 1);
        x.cancel();
        refusesChanges("cancelled", x);
        x.finish(0, 0);
        refusesChanges("cancelled, one runs still", x);
        x.finish(1, 0);
        Due.is("over", x.add(0, NONE, 0), 3);
    }

    private static void refusesChanges(String what, SubflowExecutor x) {
        Due.is(what + ": add", x.add(0, NONE, 0), NONE);
        Due.no(what + ": edge", x.edge(1, 0));
        Due.no(what + ": capacity", x.capacity(0, 2));
    }

    // Promise 5.

    /** "1 there is no task" */
    private static void checkOfAnEmptyGraph() {
        SubflowExecutor x = new SubflowExecutor(1);
        Due.is("empty", x.check(), 1);
        x.add(4, NONE, 0);
        x.edge(0, 0);
        x.capacity(0, 2);
        Due.is("empty still", x.check(), 1);
        x.add(0, NONE, 0);
        Due.is("one task", x.check(), 0);
    }

    /** "a group that has tasks has no source": one without tasks needs none. */
    private static void checkOfAGroupWithoutTasks() {
        for (int kind = Due.JOINED; kind <= Due.DETACHED; kind++) {
            SubflowExecutor x = new SubflowExecutor(1);
            x.add(kind, NONE, 0);
            Due.is("kind " + kind + " without children", x.check(), 0);
        }
    }

    /** "2 a group that has tasks has no source": all tasks without a parent. */
    private static void checkOfTheTopWithoutASource() {
        for (int count = 1; count <= 24; count++) {
            SubflowExecutor x = new SubflowExecutor(1);
            for (int t = 0; t < count; t++) {
                x.add(Due.CHOICE, NONE, 0);
            }
            for (int t = 0; t < count; t++) {
                Due.is(count + " tasks, a source is left", x.check(), 0);
                x.edge(t, (t + 1) % count);
            }
            Due.is(count + " tasks in a ring", x.check(), 2);
            Due.no("start", x.start(1));
        }
    }

    /** The same for the children of one task, on each level. */
    private static void checkOfEachGroupWithoutASource() {
        for (int level = 1; level <= 3; level++) {
            for (int kind = Due.JOINED; kind <= Due.DETACHED; kind++) {
                SubflowExecutor x = new SubflowExecutor(1);
                for (int above = 0; above < level; above++) {
                    x.add(kind, above - 1, 0);
                }
                int child = x.add(Due.CHOICE, level - 1, 0);
                Due.is("level " + level + " with a source", x.check(), 0);
                x.edge(child, child);
                Due.is("level " + level + " without", x.check(), 2);
                x.add(Due.PLAIN, level - 2, 0);
                Due.is("another group's source does not count", x.check(), 2);
                x.add(Due.PLAIN, level - 1, 0);
                Due.is("its own does", x.check(), 0);
            }
        }
    }

    /** "A task to which no edge leads, weak or strong, is a SOURCE." */
    private static void checkOfAWeakEdgeToASource() {
        for (int kind = 0; kind <= 3; kind++) {
            SubflowExecutor x = Due.plain(1, 1);
            x.add(kind, NONE, 0);
            x.add(Due.PLAIN, NONE, 0);
            x.edge(1, 2);
            x.start(1);
            Due.line("kind " + kind + " leads to the last", x, 1, 0, 1);
        }
    }

    /** "3 strong edges lead from a task back to itself (by one edge or more)" */
    private static void checkOfStrongCyclesOfEachLength() {
        int[] kinds = {Due.PLAIN, Due.JOINED, Due.DETACHED};
        for (int length = 1; length <= 23; length++) {
            SubflowExecutor x = Due.plain(1, 1);
            for (int t = 1; t <= length; t++) {
                x.add(kinds[t % 3], NONE, 0);
            }
            for (int t = 1; t < length; t++) {
                x.edge(t, t + 1);
            }
            Due.is("a chain of " + length, x.check(), 0);
            x.edge(length, 1);
            Due.is("a cycle of " + length, x.check(), 3);
            Due.no("start", x.start(1));
        }
    }

    /** The same where one of the edges is weak: nothing stands against it. */
    private static void checkOfCyclesWithAWeakEdge() {
        for (int length = 1; length <= 23; length++) {
            SubflowExecutor x = Due.plain(1, 1);
            int choice = 1 + length / 2;
            for (int t = 1; t <= length; t++) {
                x.add(t == choice ? Due.CHOICE : Due.PLAIN, NONE, 0);
            }
            for (int t = 1; t <= length; t++) {
                x.edge(t, t == length ? 1 : t + 1);
            }
            Due.is("a weak cycle of " + length, x.check(), 0);
            Due.yes("start", x.start(1));
        }
    }

    /** A cycle that a source leads into, and one that leads out to others. */
    private static void checkOfACycleBesideASource() {
        SubflowExecutor x = Due.plain(1, 6);
        x.edge(0, 1);
        x.edge(1, 2);
        x.edge(2, 3);
        x.edge(3, 4);
        x.edge(4, 5);
        Due.is("a chain", x.check(), 0);
        x.edge(0, 5);
        x.edge(1, 5);
        Due.is("many ways", x.check(), 0);
        x.edge(3, 2);
        Due.is("a cycle in the middle", x.check(), 3);
    }

    /** "the first of these that holds" */
    private static void checkOfTheFirstThatHolds() {
        SubflowExecutor x = new SubflowExecutor(1);
        x.add(Due.JOINED, NONE, 0);
        x.edge(0, 0);
        Due.is("neither source nor way out", x.check(), 2);
        x.add(Due.PLAIN, NONE, 0);
        Due.is("the cycle alone", x.check(), 3);
        x.add(Due.CHOICE, 0, 0);
        x.edge(2, 2);
        Due.is("a later group without a source", x.check(), 2);
    }

    /** "It can be asked during a run as well." */
    private static void checkInEachStateOfARun() {
        SubflowExecutor x = new SubflowExecutor(2);
        x.add(Due.JOINED, NONE, 0);
        x.add(Due.PLAIN, 0, 1);
        x.add(Due.PLAIN, 0, 1);
        x.start(1);
        Due.is("ready", x.check(), 0);
        x.begin(0);
        Due.is("running", x.check(), 0);
        x.finish(0, 0);
        Due.is("waiting", x.check(), 0);
        x.begin(0);
        x.begin(1);
        Due.is("parked", x.where(1), Due.PARKED);
        Due.is("while one is parked", x.check(), 0);
        x.cancel();
        Due.is("cancelled", x.check(), 0);
        x.finish(0, 0);
        Due.is("over", x.check(), 0);
    }
}
