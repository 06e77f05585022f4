import java.util.ArrayList;
import java.util.List;

/** The document's words told a second time, with objects and lists, for ModelTest to compare. */
final class Model {
    private static final int NONE = -1;

    private enum State { IDLE, READY, PARKED, RUNNING, WAITING }

    private static final class Task {
        final int number;
        final int kind;
        final Task parent;
        final int needs;
        final List<Task> children = new ArrayList<>();
        final List<Task> edges = new ArrayList<>();
        final List<Task> edgesIn = new ArrayList<>();
        State state = State.IDLE;
        int arrivals;
        int runs;
        boolean aChildFailed;

        Task(int number, int kind, Task parent, int needs) {
            this.number = number;
            this.kind = kind;
            this.parent = parent;
            this.needs = needs;
        }

        int level() {
            return parent == null ? 0 : 1 + parent.level();
        }

        long strongEdgesIn() {
            return edgesIn.stream().filter(from -> from.kind != Due.CHOICE).count();
        }

        boolean hasActiveChild() {
            return children.stream().anyMatch(child -> child.state != State.IDLE);
        }

        boolean reachesStrongly(Task goal, List<Task> seen) {
            if (kind == Due.CHOICE || seen.contains(this)) {
                return false;
            }
            seen.add(this);
            return edges.stream().anyMatch(to -> to == goal || to.reachesStrongly(goal, seen));
        }
    }

    private final List<Task> tasks = new ArrayList<>();
    private final List<Task> top = new ArrayList<>();
    private final int[] capacity = {1, 1, 1, 1};
    private final Task[] running;
    private final List<List<Task>> lines = new ArrayList<>();
    private final List<Task> parked = new ArrayList<>();
    private boolean begun;
    private boolean underWay;
    private boolean cancelled;
    private Task thrower;
    private int rounds;
    private int round;
    private int lost;
    private int steals;

    Model(int workers) {
        int count = workers < 1 ? 1 : workers > 4 ? 4 : workers;
        running = new Task[count];
        for (int l = 0; l <= count; l++) {
            lines.add(new ArrayList<>());
        }
    }

    int add(int kind, int parent, int needs) {
        if (underWay || tasks.size() == 24 || kind < 0 || kind > 3 || needs < 0 || needs > 15) {
            return NONE;
        }
        Task above = task(parent);
        if (parent != NONE && (above == null || above.kind < Due.JOINED || above.level() == 3)) {
            return NONE;
        }
        Task t = new Task(tasks.size(), kind, above, needs);
        tasks.add(t);
        (above == null ? top : above.children).add(t);
        return t.number;
    }

    boolean edge(int a, int b) {
        Task from = task(a);
        Task to = task(b);
        if (underWay || from == null || to == null || from.parent != to.parent
                || from.edges.contains(to) || from.edges.size() == 6) {
            return false;
        }
        from.edges.add(to);
        to.edgesIn.add(from);
        return true;
    }

    boolean capacity(int s, int units) {
        if (underWay || s < 0 || s > 3 || units < 1 || units > 4) {
            return false;
        }
        capacity[s] = units;
        return true;
    }

    int check() {
        if (tasks.isEmpty()) {
            return 1;
        }
        if (sources(top).isEmpty()) {
            return 2;
        }
        for (Task t : tasks) {
            if (!t.children.isEmpty() && sources(t.children).isEmpty()) {
                return 2;
            }
        }
        for (Task t : tasks) {
            if (t.reachesStrongly(t, new ArrayList<>())) {
                return 3;
            }
        }
        return 0;
    }

    boolean start(int asked) {
        if (underWay || asked < 1 || asked > 9 || check() != 0) {
            return false;
        }
        begun = true;
        underWay = true;
        cancelled = false;
        thrower = null;
        rounds = asked;
        round = 0;
        lost = 0;
        steals = 0;
        tasks.forEach(t -> t.runs = 0);
        nextRound();
        return true;
    }

    int begin(int w) {
        if (!underWay || w < 0 || w >= running.length || running[w] != null) {
            return NONE;
        }
        for (Task t = take(w); t != null; t = take(w)) {
            if (unitsAreFree(t)) {
                t.state = State.RUNNING;
                t.runs++;
                running[w] = t;
                return t.number;
            }
            t.state = State.PARKED;
            parked.add(t);
        }
        return NONE;
    }

    int finish(int w, int choice) {
        if (w < 0 || w >= running.length || running[w] == null) {
            return NONE;
        }
        Task t = leave(w);
        if (!cancelled && t.kind >= Due.JOINED) {
            t.aChildFailed = false;
            t.children.forEach(child -> child.arrivals = 0);
            sources(t.children).forEach(child -> token(child, lines.get(w)));
            if (t.kind == Due.JOINED && t.hasActiveChild()) {
                t.state = State.WAITING;
                return 0;
            }
        }
        int ended = end(t, false, choice, lines.get(w));
        lookWhetherOver();
        return ended;
    }

    int fail(int w) {
        if (w < 0 || w >= running.length || running[w] == null) {
            return NONE;
        }
        Task t = leave(w);
        thrower = thrower == null ? t : thrower;
        int ended = end(t, true, 0, lines.get(w));
        lookWhetherOver();
        return ended;
    }

    int cancel() {
        if (!underWay || cancelled) {
            return NONE;
        }
        cancelled = true;
        int dropped = parked.size();
        parked.forEach(t -> t.state = State.IDLE);
        parked.clear();
        for (List<Task> line : lines) {
            dropped += line.size();
            line.forEach(t -> t.state = State.IDLE);
            line.clear();
        }
        boolean changed = true;
        while (changed) {
            changed = false;
            for (Task t : tasks) {
                if (t.state == State.WAITING && !t.hasActiveChild()) {
                    t.state = State.IDLE;
                    changed = true;
                }
            }
        }
        lookWhetherOver();
        return dropped;
    }

    int state() {
        if (!begun) {
            return 0;
        }
        if (underWay) {
            return cancelled ? 2 : 1;
        }
        return cancelled ? 5 : thrower != null ? 4 : 3;
    }

    int thrower() {
        return thrower == null ? NONE : thrower.number;
    }

    int round() {
        return round;
    }

    int lost() {
        return lost;
    }

    int steals() {
        return steals;
    }

    int runs(int t) {
        return task(t) == null ? 0 : task(t).runs;
    }

    int arrivals(int t) {
        return !underWay || task(t) == null ? 0 : task(t).arrivals;
    }

    int where(int number) {
        Task t = task(number);
        if (t == null) {
            return NONE;
        }
        for (int w = 0; w < running.length; w++) {
            if (running[w] == t) {
                return 3 + w;
            }
            if (lines.get(w).contains(t)) {
                return 10 + w;
            }
        }
        if (lines.get(running.length).contains(t)) {
            return 20;
        }
        return parked.contains(t) ? 1 : t.state == State.WAITING ? 2 : 0;
    }

    int lineAt(int l, int k) {
        if (l < 0 || l >= lines.size() || k < 0 || k >= lines.get(l).size()) {
            return NONE;
        }
        return lines.get(l).get(k).number;
    }

    int held(int s) {
        int units = 0;
        for (Task t : running) {
            if (s >= 0 && s <= 3 && t != null && (t.needs >> s & 1) == 1) {
                units++;
            }
        }
        return units;
    }

    private Task task(int t) {
        return t < 0 || t >= tasks.size() ? null : tasks.get(t);
    }

    private static List<Task> sources(List<Task> group) {
        List<Task> found = new ArrayList<>();
        for (Task t : group) {
            if (t.edgesIn.isEmpty()) {
                found.add(t);
            }
        }
        return found;
    }

    private void token(Task t, List<Task> line) {
        if (t.state == State.IDLE) {
            t.state = State.READY;
            line.add(t);
        } else {
            lost++;
        }
    }

    private void nextRound() {
        round++;
        tasks.forEach(t -> t.arrivals = 0);
        sources(top).forEach(t -> token(t, lines.get(running.length)));
    }

    private Task take(int w) {
        List<Task> own = lines.get(w);
        if (!own.isEmpty()) {
            return own.remove(own.size() - 1);
        }
        List<Task> shared = lines.get(running.length);
        if (!shared.isEmpty()) {
            return shared.remove(0);
        }
        for (int v = (w + 1) % running.length; v != w; v = (v + 1) % running.length) {
            if (!lines.get(v).isEmpty()) {
                steals++;
                return lines.get(v).remove(0);
            }
        }
        return null;
    }

    private boolean unitsAreFree(Task t) {
        for (int s = 0; s < 4; s++) {
            if ((t.needs >> s & 1) == 1 && held(s) >= capacity[s]) {
                return false;
            }
        }
        return true;
    }

    private Task leave(int w) {
        Task t = running[w];
        running[w] = null;
        for (Task other : new ArrayList<>(parked)) {
            if ((other.needs & t.needs) != 0) {
                parked.remove(other);
                other.state = State.READY;
                lines.get(running.length).add(other);
            }
        }
        return t;
    }

    private int end(Task t, boolean fails, int choice, List<Task> line) {
        t.state = State.IDLE;
        if (!fails && !cancelled) {
            passOn(t, choice, line);
        }
        if (t.parent == null || t.parent.kind != Due.JOINED) {
            return 1;
        }
        t.parent.aChildFailed |= fails;
        return t.parent.hasActiveChild() ? 1 : 1 + end(t.parent, t.parent.aChildFailed, 0, line);
    }

    private void passOn(Task t, int choice, List<Task> line) {
        if (t.kind == Due.CHOICE) {
            if (choice >= 0 && choice < t.edges.size()) {
                token(t.edges.get(choice), line);
            }
            return;
        }
        for (Task to : t.edges) {
            to.arrivals++;
            if (to.arrivals == to.strongEdgesIn()) {
                to.arrivals = 0;
                token(to, line);
            }
        }
    }

    private void lookWhetherOver() {
        if (tasks.stream().anyMatch(t -> t.state != State.IDLE)) {
            return;
        }
        if (cancelled || thrower != null || round == rounds) {
            underWay = false;
        } else {
            nextRound();
        }
    }
}
