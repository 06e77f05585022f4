/**
 * All that an object answers, as a text. Two objects that were made by the same calls, but for
 * one that must have changed nothing, are alike in it: now, and when they go on. With 24 tasks
 * and a hundred calls before, both texts together stay below the 512 calls of an object.
 */
final class Whole {
    private static final int MOST_WORKERS = 4;

    private Whole() {
    }

    static String answers(SubflowExecutor x) {
        StringBuilder text = new StringBuilder();
        text.append("check ").append(x.check()).append(" state ").append(x.state());
        text.append(" thrower ").append(x.thrower()).append(" round ").append(x.round());
        text.append(" lost ").append(x.lost()).append(" steals ").append(x.steals());
        tasks(x, text.append(" tasks"));
        for (int l = 0; l <= MOST_WORKERS; l++) {
            line(x, l, text.append(" line ").append(l));
        }
        text.append(" held");
        for (int s = 0; s < 4; s++) {
            text.append(' ').append(x.held(s));
        }
        return text.toString();
    }

    private static void tasks(SubflowExecutor x, StringBuilder text) {
        int t = 0;
        for (int where = x.where(t); where != Due.NONE; where = x.where(t)) {
            text.append(' ').append(where).append('/').append(x.arrivals(t));
            text.append('/').append(x.runs(t));
            t++;
        }
    }

    private static void line(SubflowExecutor x, int l, StringBuilder text) {
        int k = 0;
        for (int t = x.lineAt(l, k); t != Due.NONE; t = x.lineAt(l, k)) {
            text.append(' ').append(t);
            k++;
        }
    }

    /**
     * Lets the run come to its end and begins another, for what cannot be asked shows there:
     * capacities, edges, rounds asked for, the order of the parked. Changes the object.
     */
    static String later(SubflowExecutor x) {
        StringBuilder text = new StringBuilder();
        for (int turn = 0; turn < 10 && (x.state() == 1 || x.state() == 2); turn++) {
            turnOfAll(x, text);
        }
        text.append(" round ").append(x.round()).append(" cancel ").append(x.cancel());
        turnOfAll(x, text);
        text.append(" add ").append(x.add(Due.PLAIN, Due.NONE, 15));
        text.append(" start ").append(x.start(1));
        for (int turn = 0; turn < 6; turn++) {
            turnOfAll(x, text);
        }
        return text.append(" / ").append(answers(x)).toString();
    }

    /** All workers begin before one finishes, so that units and lines get short. */
    private static void turnOfAll(SubflowExecutor x, StringBuilder text) {
        text.append(" begin");
        for (int w = 0; w < MOST_WORKERS; w++) {
            text.append(' ').append(x.begin(w));
        }
        text.append(" finish");
        for (int w = 0; w < MOST_WORKERS; w++) {
            text.append(' ').append(x.finish(w, 1));
        }
    }
}
