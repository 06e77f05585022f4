import java.util.function.Supplier;
import java.util.function.ToIntFunction;

/**
 * "A call that is refused changes nothing." In each state of an object, each reason for which the
 * document refuses a call: the object then answers what its twin answers that was not asked, now
 * and when both go on.
 */
public final class RefusedTest {
    private static final int NONE = Due.NONE;
    private static final int WORKERS = 3;
    private static final int[] FAR = {-2, Integer.MIN_VALUE, Integer.MAX_VALUE};

    public static void main(String[] args) {
        theTwinsAreAsTold();
        aNewObject();
        aFullGraph();
        aGraphOfAllLevels();
        aTaskWithSixEdges();
        aGraphWithoutASource();
        aGraphWithACycle();
        beforeTheFirstRun();
        underWay();
        underWayAndCancelled();
        overInEachWay();
        questionsOfNothing();
        Due.close("RefusedTest");
    }

    // How a twin is compared.

    private static void refused(String what, Supplier<SubflowExecutor> made,
            ToIntFunction<SubflowExecutor> call, int due) {
        SubflowExecutor asked = made.get();
        SubflowExecutor twin = made.get();
        Due.is(what, call.applyAsInt(asked), due);
        Due.same(what + " changes nothing", Whole.answers(asked), Whole.answers(twin));
        Due.same(what + " changes nothing later",
                Whole.later(asked, WORKERS), Whole.later(twin, WORKERS));
    }

    private static void add(String in, Supplier<SubflowExecutor> made,
            int kind, int parent, int needs) {
        refused(in + ": add(" + kind + ", " + parent + ", " + needs + ")", made,
                x -> x.add(kind, parent, needs), NONE);
    }

    private static void edge(String in, Supplier<SubflowExecutor> made, int a, int b) {
        refused(in + ": edge(" + a + ", " + b + ")", made, x -> x.edge(a, b) ? 1 : 0, 0);
    }

    private static void capacity(String in, Supplier<SubflowExecutor> made, int s, int units) {
        refused(in + ": capacity(" + s + ", " + units + ")", made,
                x -> x.capacity(s, units) ? 1 : 0, 0);
    }

    private static void start(String in, Supplier<SubflowExecutor> made, int rounds) {
        refused(in + ": start(" + rounds + ")", made, x -> x.start(rounds) ? 1 : 0, 0);
    }

    private static void begin(String in, Supplier<SubflowExecutor> made, int w) {
        refused(in + ": begin(" + w + ")", made, x -> x.begin(w), NONE);
    }

    private static void body(String in, Supplier<SubflowExecutor> made, int w) {
        refused(in + ": finish(" + w + ", 0)", made, x -> x.finish(w, 0), NONE);
        refused(in + ": finish(" + w + ", 1)", made, x -> x.finish(w, 1), NONE);
        refused(in + ": fail(" + w + ")", made, x -> x.fail(w), NONE);
    }

    private static void cancel(String in, Supplier<SubflowExecutor> made) {
        refused(in + ": cancel()", made, SubflowExecutor::cancel, NONE);
    }

    // The objects.

    /**
     * 0 (JOINED) holds 1 and 2, which need semaphore 0; 3 leads to 6 and to the choice 4, and 0 and
     * 3 to 5; 4 leads to itself and to 5; 4 and 6 need semaphore 1, of two units.
     */
    private static SubflowExecutor built() {
        SubflowExecutor x = new SubflowExecutor(WORKERS);
        x.add(Due.JOINED, NONE, 0);
        x.add(Due.PLAIN, 0, 1);
        x.add(Due.PLAIN, 0, 1);
        x.add(Due.PLAIN, NONE, 0);
        x.add(Due.CHOICE, NONE, 2);
        x.add(Due.PLAIN, NONE, 0);
        x.add(Due.PLAIN, NONE, 2);
        x.edge(0, 5);
        x.edge(3, 5);
        x.edge(3, 6);
        x.edge(3, 4);
        x.edge(4, 4);
        x.edge(4, 5);
        x.capacity(1, 2);
        return x;
    }

    /**
     * In the first of three rounds: 0 is WAITING, 1 PARKED, 2 RUNNING by worker 0 and 6 by worker
     * 2, 4 READY in the line of worker 1, which is free.
     */
    private static SubflowExecutor midway() {
        SubflowExecutor x = built();
        x.start(3);
        x.begin(0);
        x.finish(0, 0);
        x.begin(0);
        x.begin(1);
        x.finish(1, 0);
        x.begin(1);
        x.begin(2);
        x.finish(1, 0);
        return x;
    }

    private static SubflowExecutor cancelled() {
        SubflowExecutor x = midway();
        x.cancel();
        return x;
    }

    private static SubflowExecutor overCancelled() {
        SubflowExecutor x = cancelled();
        x.finish(0, 0);
        x.finish(2, 0);
        return x;
    }

    private static SubflowExecutor overFailed() {
        SubflowExecutor x = midway();
        x.fail(0);
        x.finish(2, 0);
        for (int turn = 0; turn < 4 && x.state() == 1; turn++) {
            x.begin(0);
            x.finish(0, 2);
        }
        return x;
    }

    private static SubflowExecutor overWhole() {
        SubflowExecutor x = Due.plain(WORKERS, 3);
        x.edge(0, 2);
        x.start(2);
        for (int turn = 0; turn < 6; turn++) {
            x.begin(turn % 3);
            x.finish(turn % 3, 0);
        }
        return x;
    }

    private static SubflowExecutor full() {
        SubflowExecutor x = Due.plain(WORKERS, 23);
        x.add(Due.JOINED, NONE, 0);
        return x;
    }

    private static SubflowExecutor deep() {
        SubflowExecutor x = new SubflowExecutor(WORKERS);
        x.add(Due.JOINED, NONE, 0);
        x.add(Due.DETACHED, 0, 0);
        x.add(Due.JOINED, 1, 0);
        x.add(Due.DETACHED, 2, 0);
        x.add(Due.JOINED, 2, 0);
        return x;
    }

    private static SubflowExecutor sixEdges() {
        SubflowExecutor x = Due.plain(WORKERS, 8);
        for (int b = 1; b <= 6; b++) {
            x.edge(0, b);
        }
        return x;
    }

    private static SubflowExecutor noSource() {
        SubflowExecutor x = new SubflowExecutor(WORKERS);
        x.add(Due.JOINED, NONE, 0);
        x.add(Due.CHOICE, 0, 0);
        x.edge(1, 1);
        return x;
    }

    private static SubflowExecutor cycle() {
        SubflowExecutor x = Due.plain(WORKERS, 3);
        x.edge(1, 2);
        x.edge(2, 1);
        return x;
    }

    /** The tests below lean on what these objects are. */
    private static void theTwinsAreAsTold() {
        SubflowExecutor x = midway();
        int[] where = {Due.WAITING, Due.PARKED, Due.RUNNING, Due.IDLE, Due.READY + 1, Due.IDLE,
            Due.RUNNING + 2};
        for (int t = 0; t < 7; t++) {
            Due.is("midway, where " + t, x.where(t), where[t]);
        }
        Due.is("midway, arrivals", x.arrivals(5), 1);
        Due.is("midway, steals", x.steals(), 2);
        Due.is("midway", x.state(), 1);
        Due.is("cancelled", cancelled().state(), 2);
        Due.is("over, cancelled", overCancelled().state(), 5);
        Due.is("over, failed", overFailed().state(), 4);
        Due.is("over, whole", overWhole().state(), 3);
        Due.is("over, whole, rounds", overWhole().round(), 2);
        Due.is("no source", noSource().check(), 2);
        Due.is("a cycle", cycle().check(), 3);
    }

    // The refused calls.

    private static void aNewObject() {
        Supplier<SubflowExecutor> made = () -> new SubflowExecutor(WORKERS);
        wrongInputs("new", made, 0);
        start("new, no task", made, 1);
        start("new, no task", made, 9);
        noRun("new", made);
    }

    /** What is refused without a run for the inputs alone, with so many tasks of any kind. */
    private static void wrongInputs(String in, Supplier<SubflowExecutor> made, int tasks) {
        for (int wrong : new int[] {-1, 4, FAR[0], FAR[1], FAR[2]}) {
            add(in, made, wrong, NONE, 0);
            capacity(in, made, wrong, 1);
        }
        for (int wrong : new int[] {-1, 16, FAR[0], FAR[1], FAR[2]}) {
            add(in, made, 0, NONE, wrong);
        }
        for (int wrong : new int[] {tasks, 24, FAR[0], FAR[1], FAR[2]}) {
            add(in, made, 0, wrong, 0);
            edge(in, made, wrong, 0);
            edge(in, made, 0, wrong);
        }
        edge(in, made, NONE, NONE);
        for (int wrong : new int[] {0, 5, FAR[0], FAR[1], FAR[2]}) {
            capacity(in, made, 0, wrong);
        }
        for (int wrong : new int[] {0, 10, FAR[0], FAR[1], FAR[2]}) {
            start(in, made, wrong);
        }
    }

    /** What is refused because no run is under way. */
    private static void noRun(String in, Supplier<SubflowExecutor> made) {
        for (int w : new int[] {-1, 0, 1, 2, 3, 4, FAR[1], FAR[2]}) {
            begin(in, made, w);
            body(in, made, w);
        }
        cancel(in, made);
    }

    private static void aFullGraph() {
        for (int kind = 0; kind <= 3; kind++) {
            add("24 tasks", RefusedTest::full, kind, NONE, 0);
            add("24 tasks", RefusedTest::full, kind, 23, 0);
        }
    }

    private static void aGraphOfAllLevels() {
        for (int kind = 0; kind <= 3; kind++) {
            add("level 4", RefusedTest::deep, kind, 3, 0);
            add("level 4", RefusedTest::deep, kind, 4, 0);
        }
    }

    private static void aTaskWithSixEdges() {
        edge("six edges", RefusedTest::sixEdges, 0, 7);
        edge("six edges", RefusedTest::sixEdges, 0, 0);
        edge("an edge that is there", RefusedTest::sixEdges, 0, 1);
        edge("an edge that is there", RefusedTest::sixEdges, 0, 6);
    }

    private static void aGraphWithoutASource() {
        start("no source", RefusedTest::noSource, 1);
        noRun("no source", RefusedTest::noSource);
    }

    private static void aGraphWithACycle() {
        start("a cycle", RefusedTest::cycle, 1);
        noRun("a cycle", RefusedTest::cycle);
    }

    private static void beforeTheFirstRun() {
        wrongInputs("built", RefusedTest::built, 7);
        noRun("built", RefusedTest::built);
        wrongGroups("built", RefusedTest::built);
    }

    /** What is refused for the tasks that built() has. */
    private static void wrongGroups(String in, Supplier<SubflowExecutor> made) {
        for (int parent : new int[] {1, 3, 4, 5, 6}) {
            add(in + ", PLAIN or CHOICE", made, 0, parent, 0);
        }
        edge(in + ", to a child", made, 0, 1);
        edge(in + ", from a child", made, 2, 5);
        edge(in + ", there", made, 3, 5);
        edge(in + ", to itself, there", made, 4, 4);
    }

    private static void underWay() {
        changes("under way", RefusedTest::midway);
        for (int w : new int[] {0, 2, -1, 3, 4, FAR[1], FAR[2]}) {
            begin("under way", RefusedTest::midway, w);
        }
        for (int w : new int[] {1, -1, 3, 4, FAR[1], FAR[2]}) {
            body("under way", RefusedTest::midway, w);
        }
    }

    /** What would not be refused without a run. */
    private static void changes(String in, Supplier<SubflowExecutor> made) {
        for (int kind = 0; kind <= 3; kind++) {
            add(in, made, kind, NONE, 0);
            add(in, made, kind, 0, 15);
        }
        edge(in, made, 0, 3);
        edge(in, made, 1, 2);
        edge(in, made, 4, 3);
        capacity(in, made, 0, 2);
        capacity(in, made, 1, 1);
        for (int rounds = 1; rounds <= 9; rounds++) {
            start(in, made, rounds);
        }
        start(in, made, 0);
        start(in, made, 10);
    }

    private static void underWayAndCancelled() {
        changes("cancelled", RefusedTest::cancelled);
        for (int w : new int[] {0, 2, -1, 3, 4, FAR[1], FAR[2]}) {
            begin("cancelled", RefusedTest::cancelled, w);
        }
        begin("cancelled, all lines empty", RefusedTest::cancelled, 1);
        for (int w : new int[] {1, -1, 3, 4, FAR[1], FAR[2]}) {
            body("cancelled", RefusedTest::cancelled, w);
        }
        cancel("cancelled already", RefusedTest::cancelled);
    }

    private static void overInEachWay() {
        wrongInputs("over", RefusedTest::overWhole, 3);
        noRun("over", RefusedTest::overWhole);
        wrongInputs("over, failed", RefusedTest::overFailed, 7);
        wrongGroups("over, failed", RefusedTest::overFailed);
        noRun("over, failed", RefusedTest::overFailed);
        wrongInputs("over, cancelled", RefusedTest::overCancelled, 7);
        wrongGroups("over, cancelled", RefusedTest::overCancelled);
        noRun("over, cancelled", RefusedTest::overCancelled);
    }

    /** A question changes nothing either, least of all about what there is not. */
    private static void questionsOfNothing() {
        for (int n : new int[] {-1, 0, 6, 7, 24, FAR[1], FAR[2]}) {
            SubflowExecutor asked = midway();
            SubflowExecutor twin = midway();
            asked.runs(n);
            asked.arrivals(n);
            asked.where(n);
            asked.lineAt(n, 0);
            asked.lineAt(0, n);
            asked.held(n);
            Due.same("asked about " + n, Whole.answers(asked), Whole.answers(twin));
            Due.same("asked about " + n + ", later",
                    Whole.later(asked, WORKERS), Whole.later(twin, WORKERS));
        }
    }
}
