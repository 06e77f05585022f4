/**
 * All that an object answers, as a text. Two objects that were made by the same calls, but for
 * one that must have changed nothing, are alike in it: now, and when they go on.
 */
final class Whole {
    private static final int MOST_WORKERS = 4;

    private Whole() {
    }

    static String answers(SubflowExecutor x) {
        StringBuilder text = new StringBuilder();
        text.append("check ").append(x.check()).append(" state ").append(x.state());
        text.append(" thrower ").append(x.thrower()).append(" round ").append(x.round());
        text.append(" lost ").append(x.lost()).append(" steals ").append(x.steals());
        tasks(x, text.append(" tasks"));
        for (int l = 0; l <= MOST_WORKERS; l++) {
            line(x, l, text.append(" line ").append(l));
        }
        text.append(" held");
        for (int s = 0; s < 4; s++) {
            text.append(' ').append(x.held(s));
        }
        return text.toString();
    }

    private static void tasks(SubflowExecutor x, StringBuilder text) {
        int t = 0;
        for (int where = x.where(t); where != Due.NONE; where = x.where(t)) {
            text.append(' ').append(where).append('/').append(x.arrivals(t));
            text.append('/').append(x.runs(t));
            t++;
        }
    }

    private static void line(SubflowExecutor x, int l, StringBuilder text) {
        int k = 0;
        for (int t = x.lineAt(l, k); t != Due.NONE; t = x.lineAt(l, k)) {
            text.append(' ').append(t);
            k++;
        }
    }

    /**
     * Lets the run come to its end and begins another, for what cannot be asked shows there:
     * capacities, edges, rounds asked for, the order of the parked. Changes the object. None of
     * its calls is refused in a sound object: one that did harm would do it to both twins.
     */
    static String later(SubflowExecutor x, int workers) {
        StringBuilder text = new StringBuilder();
        boolean[] runs = whoRuns(x, workers);
        for (int turn = 0; turn < 10 && isUnderWay(x); turn++) {
            turnOfAll(x, runs, text);
        }
        if (x.state() == 1) {
            text.append(" cancel ").append(x.cancel());
        }
        text.append(" / ").append(answers(x));
        if (x.where(23) == Due.NONE) {
            text.append(" add ").append(x.add(Due.PLAIN, Due.NONE, 0));
        }
        if (x.check() == 0) {
            text.append(" start ").append(x.start(2));
        }
        for (int turn = 0; turn < 5 && isUnderWay(x); turn++) {
            turnOfAll(x, runs, text);
        }
        return text.append(" / ").append(answers(x)).toString();
    }

    private static boolean isUnderWay(SubflowExecutor x) {
        return x.state() == 1 || x.state() == 2;
    }

    private static boolean[] whoRuns(SubflowExecutor x, int workers) {
        boolean[] runs = new boolean[workers];
        int t = 0;
        for (int where = x.where(t); where != Due.NONE; where = x.where(t)) {
            if (where >= Due.RUNNING && where < Due.RUNNING + workers) {
                runs[where - Due.RUNNING] = true;
            }
            t++;
        }
        return runs;
    }

    /** All free workers begin before one finishes, so that units and lines get short. */
    private static void turnOfAll(SubflowExecutor x, boolean[] runs, StringBuilder text) {
        text.append(" begin");
        for (int w = 0; w < runs.length; w++) {
            int t = runs[w] ? Due.NONE : x.begin(w);
            text.append(' ').append(t);
            runs[w] |= t != Due.NONE;
        }
        text.append(" finish");
        for (int w = 0; w < runs.length; w++) {
            text.append(' ').append(runs[w] ? x.finish(w, 1) : Due.NONE);
            runs[w] = false;
        }
        text.append(" lost ").append(x.lost());
    }
}
