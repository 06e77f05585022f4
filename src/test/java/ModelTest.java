import java.util.Arrays;
import java.util.Random;

/** Many runs of calls, each answer compared with that of the Model; a seed tells a run anew. */
public final class ModelTest {
    private static final int RUNS = 20000;
    // An object is used for at most 512 calls; the last two of a build may come on top of these.
    private static final int CALLS = 510;
    private static final int[] ODD = {-2, -1, 4, 5, 24, 25, Integer.MIN_VALUE, Integer.MAX_VALUE};

    // How much the runs saw: a generator that reaches little would prove little.
    private static final int[] statesSeen = new int[6];
    private static final int[] endedSeen = new int[5];
    private static long lostSeen;
    private static long stealsSeen;
    private static long parkedSeen;

    private final Random random;
    private final long seed;
    private final SubflowExecutor x;
    private final Model model;
    private final int workers;
    private final boolean needy;
    private final int[] kinds = new int[24];
    private final int[] parents = new int[24];
    private int tasks;
    private int calls;
    private int wrong;

    private ModelTest(long seed) {
        this.seed = seed;
        random = new Random(seed);
        int asked = random.nextInt(8) == 0 ? odd() : 1 + random.nextInt(4);
        needy = random.nextInt(3) == 0;
        workers = asked < 1 ? 1 : Math.min(asked, 4);
        x = new SubflowExecutor(asked);
        model = new Model(asked);
    }

    public static void main(String[] args) {
        int wrongRuns = 0;
        for (long seed = 1; seed <= RUNS && wrongRuns < 5; seed++) {
            ModelTest test = new ModelTest(seed);
            test.play();
            if (test.wrong != 0) {
                wrongRuns++;
            }
        }
        Due.is("runs that differ from the model", wrongRuns, 0);
        if (wrongRuns == 0) {
            enoughWasSeen();
        }
        System.out.println("seen: states " + Arrays.toString(statesSeen) + ", ended "
                + Arrays.toString(endedSeen) + ", lost " + lostSeen + ", steals " + stealsSeen
                + ", parked " + parkedSeen);
        Due.close("ModelTest");
    }

    private static void enoughWasSeen() {
        for (int state = 1; state < statesSeen.length; state++) {
            Due.yes("state " + state + " was seen", statesSeen[state] > 1000);
        }
        for (int ended = 0; ended < endedSeen.length; ended++) {
            Due.yes(ended + " tasks ended at once", endedSeen[ended] > 100);
        }
        Due.yes("tokens were lost", lostSeen > 1000);
        Due.yes("steals were seen", stealsSeen > 1000);
        Due.yes("tasks were parked", parkedSeen > 1000);
    }

    private void play() {
        while (goesOn()) {
            build();
            while (goesOn() && random.nextInt(isUnderWay() ? 200 : 4) != 0) {
                move();
                for (int i = random.nextInt(3); i > 0 && goesOn(); i--) {
                    ask();
                }
            }
        }
    }

    private boolean goesOn() {
        return calls < CALLS && wrong == 0;
    }

    private boolean isUnderWay() {
        return model.state() == 1 || model.state() == 2;
    }

    private void build() {
        boolean deep = random.nextBoolean();
        for (int i = random.nextInt(12); i > 0 && calls < CALLS; i--) {
            addOne(deep);
        }
        for (int i = random.nextInt(2 * tasks + 6); i > 0 && calls < CALLS; i--) {
            edgeOne();
        }
        for (int i = random.nextInt(3); i > 0 && calls < CALLS; i--) {
            int s = number(4);
            int units = number(5);
            same("capacity(" + s + ", " + units + ")",
                    bit(x.capacity(s, units)), bit(model.capacity(s, units)));
        }
        same("check()", x.check(), model.check());
        int rounds = random.nextInt(6) == 0 ? number(12) : 1 + random.nextInt(3);
        same("start(" + rounds + ")", bit(x.start(rounds)), bit(model.start(rounds)));
    }

    private void addOne(boolean deep) {
        int kind = random.nextInt(30) == 0 ? odd() : random.nextInt(4);
        int parent = random.nextInt(deep ? 4 : 2) == 0 ? Due.NONE : someParent(deep);
        int needs = needy ? number(4) : random.nextInt(2) == 0 ? number(16) : 0;
        int due = model.add(kind, parent, needs);
        same("add(" + kind + ", " + parent + ", " + needs + ")", x.add(kind, parent, needs), due);
        if (due != Due.NONE) {
            kinds[due] = kind;
            parents[due] = parent;
            tasks++;
        }
    }

    private int someParent(boolean deep) {
        for (int t = tasks - 1; deep && t >= 0; t--) {
            if (kinds[t] >= Due.JOINED && random.nextInt(3) != 0) {
                return t;
            }
        }
        return number(Math.max(tasks, 1));
    }

    /**
     * Strong edges mostly lead to a higher number, and few edges to the first of a group: one
     * cycle spoils the graph for good, and so does a group without a source for long.
     */
    private void edgeOne() {
        int a = number(Math.max(tasks, 1));
        int b = sibling(a);
        boolean weak = a >= 0 && a < tasks && kinds[a] == Due.CHOICE;
        if (a >= b && random.nextInt(weak ? 2 : 300) != 0) {
            if (a == b) {
                return;
            }
            int swap = a;
            a = b;
            b = swap;
        }
        if (isFirstOfGroup(b) && random.nextInt(60) != 0) {
            return;
        }
        same("edge(" + a + ", " + b + ")", bit(x.edge(a, b)), bit(model.edge(a, b)));
    }

    private boolean isFirstOfGroup(int t) {
        if (t < 0 || t >= tasks) {
            return false;
        }
        for (int other = 0; other < t; other++) {
            if (parents[other] == parents[t]) {
                return false;
            }
        }
        return true;
    }

    private int sibling(int a) {
        int b = number(Math.max(tasks, 1));
        for (int i = 0; i < 20 && a >= 0 && a < tasks && b >= 0 && b < tasks; i++) {
            if (parents[a] == parents[b] || random.nextInt(30) == 0) {
                return b;
            }
            b = random.nextInt(tasks);
        }
        return b;
    }

    private void move() {
        int w = random.nextInt(25) == 0 ? odd() : random.nextInt(workers);
        int kind = random.nextInt(100);
        if (kind < 58) {
            same("begin(" + w + ")", x.begin(w), model.begin(w));
        } else if (kind < 94) {
            int choice = random.nextInt(8) == 0 ? odd() : random.nextInt(3);
            int due = model.finish(w, choice);
            same("finish(" + w + ", " + choice + ")", x.finish(w, choice), due);
            if (due >= 0) {
                endedSeen[due]++;
            }
        } else if (kind < 97) {
            same("fail(" + w + ")", x.fail(w), model.fail(w));
        } else if (kind < 98) {
            same("cancel()", x.cancel(), model.cancel());
        } else if (kind < 99) {
            same("start(2)", bit(x.start(2)), bit(model.start(2)));
        } else {
            refusedUnlessOver();
        }
    }

    private void refusedUnlessOver() {
        switch (random.nextInt(3)) {
            case 0 -> addOne(false);
            case 1 -> edgeOne();
            default -> same("capacity(0, 2)", bit(x.capacity(0, 2)), bit(model.capacity(0, 2)));
        }
    }

    private void ask() {
        int t = number(Math.max(tasks, 1));
        int s = number(4);
        int l = number(workers + 1);
        int k = number(3);
        switch (random.nextInt(14)) {
            case 0 -> {
                same("state()", x.state(), model.state());
                statesSeen[model.state()]++;
            }
            case 1 -> same("thrower()", x.thrower(), model.thrower());
            case 2 -> same("round()", x.round(), model.round());
            case 3 -> {
                same("lost()", x.lost(), model.lost());
                lostSeen += model.lost();
            }
            case 4 -> {
                same("steals()", x.steals(), model.steals());
                stealsSeen += model.steals();
            }
            case 5 -> same("runs(" + t + ")", x.runs(t), model.runs(t));
            case 6, 7 -> same("arrivals(" + t + ")", x.arrivals(t), model.arrivals(t));
            case 8, 9 -> {
                same("where(" + t + ")", x.where(t), model.where(t));
                parkedSeen += model.where(t) == Due.PARKED ? 1 : 0;
            }
            case 10, 11 -> same("lineAt(" + l + ", " + k + ")", x.lineAt(l, k), model.lineAt(l, k));
            case 12 -> same("held(" + s + ")", x.held(s), model.held(s));
            default -> same("check()", x.check(), model.check());
        }
    }

    private int number(int below) {
        return random.nextInt(40) == 0 ? odd() : random.nextInt(below);
    }

    private int odd() {
        return ODD[random.nextInt(ODD.length)];
    }

    private static int bit(boolean answer) {
        return answer ? 1 : 0;
    }

    private void same(String call, int got, int want) {
        calls++;
        if (got != want && wrong == 0) {
            System.out.println("seed " + seed + ", call " + calls + ", " + call
                    + " answered " + got + ", the model " + want);
        }
        if (got != want) {
            wrong++;
        }
    }
}
