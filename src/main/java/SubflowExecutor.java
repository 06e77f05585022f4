import java.util.Arrays;

/** Runs a graph of tasks by workers with lines of their own; README.md says how it is used. */
public final class SubflowExecutor {
    public static final int NONE = -1;

    private static final int MAX_WORKERS = 4;
    private static final int MAX_TASKS = 24;
    private static final int MAX_LEVEL = 3;
    private static final int MAX_EDGES = 6;
    private static final int MAX_ROUNDS = 9;
    private static final int SEMAPHORES = 4;
    private static final int MAX_CAPACITY = 4;
    private static final int ALL_NEEDS = (1 << SEMAPHORES) - 1;

    private static final int PLAIN = 0;
    private static final int CHOICE = 1;
    private static final int JOINED = 2;
    private static final int DETACHED = 3;

    // A task's place is kept as the very number that where() answers; a worker's
    // number is added to RUNNING and to READY.
    private static final int IDLE = 0;
    private static final int PARKED = 1;
    private static final int WAITING = 2;
    private static final int RUNNING = 3;
    private static final int READY = 10;
    private static final int READY_SHARED = 20;

    private final int workers;
    private final Graph graph;
    private final Semaphores semaphores;
    // The shared line stands behind those of the workers, where lineAt() has it.
    private final Line[] lines;
    private final Line parked;
    private final int[] running;
    private final int[] place;
    private final int[] arrived;
    private final int[] runCounts;
    private final boolean[] childFailed;

    private boolean underWay;
    private boolean cancelled;
    private int firstFailed;
    private int roundsAsked;
    private int roundsBegun;
    private int tokensLost;
    private int stealCount;

    public SubflowExecutor(int workers) {
        this.workers = Math.max(1, Math.min(workers, MAX_WORKERS));
        graph = new Graph();
        semaphores = new Semaphores();
        lines = new Line[this.workers + 1];
        for (int l = 0; l <= this.workers; l++) {
            lines[l] = new Line();
        }
        parked = new Line();
        running = new int[this.workers];
        Arrays.fill(running, NONE);
        place = new int[MAX_TASKS];
        arrived = new int[MAX_TASKS];
        runCounts = new int[MAX_TASKS];
        childFailed = new boolean[MAX_TASKS];
        firstFailed = NONE;
    }

    public int add(int kind, int parent, int needs) {
        if (underWay || !graph.takesTask(kind, parent, needs)) {
            return NONE;
        }
        return graph.addTask(kind, parent, needs);
    }

    public boolean edge(int a, int b) {
        if (underWay || !graph.takesEdge(a, b)) {
            return false;
        }
        graph.addEdge(a, b);
        return true;
    }

    public boolean capacity(int s, int units) {
        if (underWay || !isSemaphore(s) || units < 1 || units > MAX_CAPACITY) {
            return false;
        }
        semaphores.capacities[s] = units;
        return true;
    }

    public int check() {
        if (graph.count == 0) {
            return 1;
        }
        if (graph.hasGroupWithoutSource()) {
            return 2;
        }
        return graph.hasStrongCycle() ? 3 : 0;
    }

    public boolean start(int rounds) {
        if (underWay || rounds < 1 || rounds > MAX_ROUNDS || check() != 0) {
            return false;
        }
        underWay = true;
        cancelled = false;
        firstFailed = NONE;
        roundsAsked = rounds;
        roundsBegun = 0;
        tokensLost = 0;
        stealCount = 0;
        Arrays.fill(runCounts, 0);
        beginRound();
        return true;
    }

    public int begin(int w) {
        if (!underWay || !isWorker(w) || running[w] != NONE) {
            return NONE;
        }
        // Each turn empties the lines by one task, and a task stands in one line at most.
        for (int turn = 0; turn < MAX_TASKS; turn++) {
            int t = take(w);
            if (t == NONE) {
                return NONE;
            }
            if (semaphores.areFree(graph.needs[t])) {
                run(t, w);
                return t;
            }
            park(t);
        }
        return NONE;
    }

    public int finish(int w, int choice) {
        if (!isWorker(w) || running[w] == NONE) {
            return NONE;
        }
        int t = leaveBody(w);
        if (!cancelled && graph.canHoldChildren(t)) {
            spawn(t, w);
        }
        if (graph.kinds[t] == JOINED && hasActiveChild(t)) {
            place[t] = WAITING;
            return 0;
        }
        int ended = endUpwards(t, false, choice, w);
        closeRound();
        return ended;
    }

    public int fail(int w) {
        if (!isWorker(w) || running[w] == NONE) {
            return NONE;
        }
        int t = leaveBody(w);
        if (firstFailed == NONE) {
            firstFailed = t;
        }
        int ended = endUpwards(t, true, NONE, w);
        closeRound();
        return ended;
    }

    public int cancel() {
        if (!underWay || cancelled) {
            return NONE;
        }
        cancelled = true;
        int dropped = dropReadyAndParked();
        endChildlessWaiting();
        closeRound();
        return dropped;
    }

    public int state() {
        if (roundsBegun == 0) {
            return 0;
        }
        if (underWay) {
            return cancelled ? 2 : 1;
        }
        if (cancelled) {
            return 5;
        }
        return firstFailed != NONE ? 4 : 3;
    }

    public int thrower() {
        return firstFailed;
    }

    public int round() {
        return roundsBegun;
    }

    public int lost() {
        return tokensLost;
    }

    public int steals() {
        return stealCount;
    }

    public int runs(int t) {
        return graph.isTask(t) ? runCounts[t] : 0;
    }

    public int arrivals(int t) {
        return underWay && graph.isTask(t) ? arrived[t] : 0;
    }

    public int where(int t) {
        return graph.isTask(t) ? place[t] : NONE;
    }

    public int lineAt(int l, int k) {
        return l < 0 || l > workers ? NONE : lines[l].taskAt(k);
    }

    public int held(int s) {
        return isSemaphore(s) ? semaphores.unitsHeld[s] : 0;
    }

    private boolean isWorker(int w) {
        return w >= 0 && w < workers;
    }

    private static boolean isSemaphore(int s) {
        return s >= 0 && s < SEMAPHORES;
    }

    private void beginRound() {
        roundsBegun++;
        Arrays.fill(arrived, 0);
        sendToSources(NONE, workers);
    }

    /** After every call that may have made the last active task idle. */
    private void closeRound() {
        if (hasActiveTask()) {
            return;
        }
        if (cancelled || firstFailed != NONE || roundsBegun >= roundsAsked) {
            underWay = false;
        } else {
            beginRound();
        }
    }

    private boolean hasActiveTask() {
        for (int t = 0; t < graph.count; t++) {
            if (place[t] != IDLE) {
                return true;
            }
        }
        return false;
    }

    private boolean hasActiveChild(int parent) {
        for (int t = 0; t < graph.count; t++) {
            if (graph.parents[t] == parent && place[t] != IDLE) {
                return true;
            }
        }
        return false;
    }

    private void sendToSources(int parent, int line) {
        for (int t = 0; t < graph.count; t++) {
            if (graph.parents[t] == parent && graph.isSource(t)) {
                sendToken(t, line);
            }
        }
    }

    private void sendToken(int t, int line) {
        if (place[t] == IDLE) {
            makeReady(t, line);
        } else {
            tokensLost++;
        }
    }

    private void makeReady(int t, int line) {
        place[t] = line == workers ? READY_SHARED : READY + line;
        lines[line].append(t);
    }

    private int take(int w) {
        if (lines[w].length > 0) {
            return lines[w].takeOut(lines[w].length - 1);
        }
        if (lines[workers].length > 0) {
            return lines[workers].takeOut(0);
        }
        return steal(w);
    }

    private int steal(int w) {
        for (int step = 1; step < workers; step++) {
            int victim = w + step < workers ? w + step : w + step - workers;
            if (lines[victim].length > 0) {
                stealCount++;
                return lines[victim].takeOut(0);
            }
        }
        return NONE;
    }

    private void run(int t, int w) {
        semaphores.hold(graph.needs[t]);
        place[t] = RUNNING + w;
        running[w] = t;
        runCounts[t]++;
    }

    private void park(int t) {
        place[t] = PARKED;
        parked.append(t);
    }

    /** Frees the worker and the units of its task, which it answers; the task stays active. */
    private int leaveBody(int w) {
        int t = running[w];
        running[w] = NONE;
        semaphores.giveBack(graph.needs[t]);
        wakeParked(graph.needs[t]);
        return t;
    }

    private void wakeParked(int needs) {
        int stay = 0;
        for (int k = 0; k < parked.length; k++) {
            int t = parked.tasks[k];
            if ((graph.needs[t] & needs) != 0) {
                makeReady(t, workers);
            } else {
                parked.tasks[stay] = t;
                stay++;
            }
        }
        parked.length = stay;
    }

    private void spawn(int t, int line) {
        childFailed[t] = false;
        for (int child = 0; child < graph.count; child++) {
            if (graph.parents[child] == t) {
                arrived[child] = 0;
            }
        }
        sendToSources(t, line);
    }

    /** Ends the task and then each parent that waited for it alone; answers how many ended. */
    private int endUpwards(int task, boolean fails, int choice, int line) {
        int ended = 0;
        int t = task;
        boolean failing = fails;
        for (int level = 0; level <= MAX_LEVEL && t != NONE; level++) {
            place[t] = IDLE;
            ended++;
            if (!failing && !cancelled) {
                passOn(t, choice, line);
            }
            t = parentThatEnds(t, failing);
            failing = t != NONE && childFailed[t];
        }
        return ended;
    }

    private int parentThatEnds(int t, boolean failing) {
        int parent = graph.parents[t];
        if (parent == NONE || graph.kinds[parent] != JOINED) {
            return NONE;
        }
        if (failing) {
            childFailed[parent] = true;
        }
        return hasActiveChild(parent) ? NONE : parent;
    }

    private void passOn(int t, int choice, int line) {
        if (graph.kinds[t] == CHOICE) {
            if (choice >= 0 && choice < graph.edgeCounts[t]) {
                sendToken(graph.edges[t][choice], line);
            }
            return;
        }
        for (int e = 0; e < graph.edgeCounts[t]; e++) {
            arrive(graph.edges[t][e], line);
        }
    }

    private void arrive(int t, int line) {
        arrived[t]++;
        if (arrived[t] == graph.strongIn[t]) {
            arrived[t] = 0;
            sendToken(t, line);
        }
    }

    private int dropReadyAndParked() {
        int dropped = 0;
        for (int t = 0; t < graph.count; t++) {
            if (place[t] == PARKED || place[t] >= READY) {
                place[t] = IDLE;
                dropped++;
            }
        }
        for (int l = 0; l <= workers; l++) {
            lines[l].length = 0;
        }
        parked.length = 0;
        return dropped;
    }

    private void endChildlessWaiting() {
        // A child's number is above its parent's, so going down the children are settled first.
        for (int t = graph.count - 1; t >= 0; t--) {
            if (place[t] == WAITING && !hasActiveChild(t)) {
                place[t] = IDLE;
            }
        }
    }

    /** The tasks and edges, which stay as they are while a run is under way. */
    private static final class Graph {
        int count;
        final int[] kinds = new int[MAX_TASKS];
        final int[] parents = new int[MAX_TASKS];
        final int[] levels = new int[MAX_TASKS];
        final int[] needs = new int[MAX_TASKS];
        final int[][] edges = new int[MAX_TASKS][MAX_EDGES];
        final int[] edgeCounts = new int[MAX_TASKS];
        final int[] allIn = new int[MAX_TASKS];
        final int[] strongIn = new int[MAX_TASKS];

        boolean isTask(int t) {
            return t >= 0 && t < count;
        }

        boolean isSource(int t) {
            return allIn[t] == 0;
        }

        boolean canHoldChildren(int t) {
            return kinds[t] == JOINED || kinds[t] == DETACHED;
        }

        boolean takesTask(int kind, int parent, int need) {
            if (count >= MAX_TASKS || kind < PLAIN || kind > DETACHED) {
                return false;
            }
            if (need < 0 || need > ALL_NEEDS) {
                return false;
            }
            return parent == NONE
                    || isTask(parent) && canHoldChildren(parent) && levels[parent] < MAX_LEVEL;
        }

        int addTask(int kind, int parent, int need) {
            int t = count;
            kinds[t] = kind;
            parents[t] = parent;
            levels[t] = parent == NONE ? 0 : levels[parent] + 1;
            needs[t] = need;
            count++;
            return t;
        }

        boolean takesEdge(int a, int b) {
            return isTask(a) && isTask(b) && parents[a] == parents[b]
                    && edgeCounts[a] < MAX_EDGES && !hasEdge(a, b);
        }

        void addEdge(int a, int b) {
            edges[a][edgeCounts[a]] = b;
            edgeCounts[a]++;
            allIn[b]++;
            if (kinds[a] != CHOICE) {
                strongIn[b]++;
            }
        }

        boolean hasEdge(int a, int b) {
            for (int e = 0; e < edgeCounts[a]; e++) {
                if (edges[a][e] == b) {
                    return true;
                }
            }
            return false;
        }

        boolean hasGroupWithoutSource() {
            for (int t = 0; t < count; t++) {
                if (!hasSource(parents[t])) {
                    return true;
                }
            }
            return false;
        }

        boolean hasSource(int parent) {
            for (int t = 0; t < count; t++) {
                if (parents[t] == parent && isSource(t)) {
                    return true;
                }
            }
            return false;
        }

        /**
         * Strikes out, again and again, the tasks with no strong edge into what is left: each
         * pass strikes at least one out unless all that is left leads to or lies on a cycle.
         */
        boolean hasStrongCycle() {
            int left = (1 << count) - 1;
            for (int pass = 0; pass < count; pass++) {
                for (int t = 0; t < count; t++) {
                    if (!leadsStronglyInto(t, left)) {
                        left &= ~(1 << t);
                    }
                }
            }
            return left != 0;
        }

        boolean leadsStronglyInto(int t, int set) {
            if (kinds[t] == CHOICE) {
                return false;
            }
            for (int e = 0; e < edgeCounts[t]; e++) {
                if ((set & (1 << edges[t][e])) != 0) {
                    return true;
                }
            }
            return false;
        }
    }

    /** The units of all semaphores; needs are sets of them, a bit each. */
    private static final class Semaphores {
        final int[] capacities = new int[SEMAPHORES];
        final int[] unitsHeld = new int[SEMAPHORES];

        Semaphores() {
            Arrays.fill(capacities, 1);
        }

        boolean areFree(int needs) {
            for (int s = 0; s < SEMAPHORES; s++) {
                if (isIn(needs, s) && unitsHeld[s] >= capacities[s]) {
                    return false;
                }
            }
            return true;
        }

        void hold(int needs) {
            for (int s = 0; s < SEMAPHORES; s++) {
                if (isIn(needs, s)) {
                    unitsHeld[s]++;
                }
            }
        }

        void giveBack(int needs) {
            for (int s = 0; s < SEMAPHORES; s++) {
                if (isIn(needs, s)) {
                    unitsHeld[s]--;
                }
            }
        }

        static boolean isIn(int needs, int s) {
            return (needs & (1 << s)) != 0;
        }
    }

    /** Tasks in a row. A task stands in one line at most, so MAX_TASKS places always do. */
    private static final class Line {
        final int[] tasks = new int[MAX_TASKS];
        int length;

        int taskAt(int k) {
            return k < 0 || k >= length ? NONE : tasks[k];
        }

        void append(int t) {
            if (length < tasks.length) {
                tasks[length] = t;
                length++;
            }
        }

        int takeOut(int k) {
            int t = taskAt(k);
            if (t == NONE) {
                return NONE;
            }
            length--;
            for (int i = k; i < length; i++) {
                tasks[i] = tasks[i + 1];
            }
            return t;
        }
    }
}
