import java.util.ArrayList;
import java.util.HashSet;
import java.util.List;
import java.util.Set;
import java.util.TreeMap;
import java.util.TreeSet;

/**
 * A second program for the same document, slow and plain, to hold the first one against. It is built in another way:
 * a version is made anew from its changes each time it is asked for, and faults and values come from ModelText.
 */
final class Model {
    static final int BAD = -1, FULL = -2, WAITS = -4, NONE = -5;

    record Change(int kind, int rule, int back, long time, ModelText text) {
    }

    record State(int text, boolean on) {
    }

    record Row(long k, long t, long v, int version) {
    }

    record Out(long value, int rule) {
    }

    record Mark(int version, List<Set<Integer>> offs) {
    }

    static final class Task {
        int applied;
        int judged;
        Set<Integer> offs = new HashSet<>();
        List<Row> waiting = new ArrayList<>();
        List<Out> outs = new ArrayList<>();
        int[] failure = {0, NONE, NONE};
    }

    private StringBuilder text = new StringBuilder();
    private List<Change> log = new ArrayList<>();
    private List<String> names = new ArrayList<>();
    private List<Task> all = new ArrayList<>(List.of(new Task()));
    private List<Mark> marks = new ArrayList<>();
    private boolean alike;
    private boolean asOf;
    private int fault;
    private int lost;
    private int judged;
    private int failures;

    int feed(int... numbers) {
        if (text.length() > 180) {
            return FULL;
        }
        for (int number : numbers) {
            text.append((char) (number >> 24 & 255)).append((char) (number >> 16 & 255));
            text.append((char) (number >> 8 & 255)).append((char) (number & 255));
        }
        return text.length();
    }

    int keep(int n) {
        if (n < 0 || n > text.length()) {
            return BAD;
        }
        int went = text.length() - n;
        text.setLength(n);
        return went;
    }

    int rule(long time) {
        if (!log.isEmpty() && time < last().time) {
            return BAD;
        }
        if (log.size() == 60) {
            return FULL;
        }
        ModelText told = new ModelText(text.toString(), names);
        text.setLength(0);
        fault = told.fault;
        if (fault != 0) {
            return -10 - told.place;
        }
        if (!names.contains(told.name())) {
            names.add(told.name());
        }
        log.add(new Change(1, names.indexOf(told.name()), NONE, time, told));
        return log.size();
    }

    int fault() {
        return fault;
    }

    int drop(int rule, long time) {
        if (!version(log.size()).containsKey(rule) || time < last().time) {
            return BAD;
        }
        if (log.size() == 60) {
            return FULL;
        }
        log.add(new Change(2, rule, NONE, time, null));
        return log.size();
    }

    int alike(boolean on) {
        int was = alike ? 1 : 0;
        alike = on;
        return was;
    }

    int asOf(boolean on) {
        int was = asOf ? 1 : 0;
        asOf = on;
        return was;
    }

    int tasks(int n) {
        if (n < 1 || n > 6) {
            return BAD;
        }
        int were = all.size();
        while (all.size() < n) {
            Task task = new Task();
            task.applied = all.get(0).applied;
            task.offs.addAll(all.get(0).offs);
            all.add(task);
        }
        List<Task> gone = new ArrayList<>(all.subList(n, all.size()));
        all = new ArrayList<>(all.subList(0, n));
        for (int i = 0; i < gone.size(); i++) {
            for (Row row : gone.get(i).waiting) {
                if (comes(all.get((n + i) % n), row) == FULL) {
                    lost++;
                }
            }
        }
        return were;
    }

    int row(int task, long k, long t, long v) {
        if (noTask(task)) {
            return BAD;
        }
        return comes(all.get(task), new Row(k, t, v, asOf ? at(t) : all.get(task).applied));
    }

    int goes(int rule, long k, long t, long v) {
        State state = version(log.size()).get(rule);
        if (state == null) {
            return BAD;
        }
        ModelText.Answer answer = textOf(state).goes(k, t, v);
        if (answer.failure() != 0) {
            return -10 - answer.failure();
        }
        long rest = answer.values().get(0) % all.size();
        return (int) (rest < 0 ? rest + all.size() : rest);
    }

    int send(int rule, long k, long t, long v) {
        int task = goes(rule, k, t, v);
        return task < 0 ? task : row(task, k, t, v) == FULL ? FULL : task;
    }

    int apply(int task, int n) {
        if (noTask(task) || n < 0 || n > 60) {
            return BAD;
        }
        Task at = all.get(task);
        int done = 0;
        for (; done < n && at.applied < log.size(); done++) {
            at.applied++;
            for (Row row : new ArrayList<>(at.waiting)) {
                if (row.version <= at.applied) {
                    at.waiting.remove(indexOfSame(at.waiting, row));
                    judge(at, row);
                }
            }
        }
        return done;
    }

    long out(int task, int i) {
        Out out = noTask(task) ? null : outOf(all.get(task), i);
        return out == null ? 0 : out.value;
    }

    int from(int task, int i) {
        if (noTask(task)) {
            return BAD;
        }
        Out out = outOf(all.get(task), i);
        return out == null ? NONE : out.rule;
    }

    int at(long time) {
        return (int) log.stream().filter(change -> change.time <= time).count();
    }

    int rules(int version, int rule, int what) {
        if (version < 0 || version > log.size() || rule < 0 || rule >= names.size() || what < 0 || what > 2) {
            return BAD;
        }
        State state = version(version).get(rule);
        if (state == null) {
            return what == 1 ? NONE : 0;
        }
        return what == 0 ? 1 : what == 1 ? state.text : state.on ? 1 : 0;
    }

    int off(int task, int rule) {
        if (noTask(task) || !version(all.get(task).applied).containsKey(rule)) {
            return BAD;
        }
        return offsHeld(all.get(task)).contains(rule) ? 1 : 0;
    }

    int change(int n, int what) {
        if (n < 1 || n > log.size() || what < 0 || what > 2) {
            return BAD;
        }
        Change change = log.get(n - 1);
        return what == 0 ? change.kind : what == 1 ? change.rule : change.back;
    }

    long when(int n) {
        return n < 1 || n > log.size() ? 0 : log.get(n - 1).time;
    }

    int failed(int task, int what) {
        return noTask(task) || what < 0 || what > 2 ? BAD : all.get(task).failure[what];
    }

    int tries(int rule, long k, long t, long v) {
        State state = version(log.size()).get(rule);
        if (state == null) {
            return BAD;
        }
        ModelText.Answer answer = textOf(state).judges(k, t, v, 0);
        return answer.failure() != 0 ? -10 - answer.failure() : answer.values().size();
    }

    int mark() {
        if (marks.size() == 4) {
            return FULL;
        }
        List<Set<Integer>> offs = new ArrayList<>();
        all.forEach(task -> offs.add(new HashSet<>(task.offs)));
        marks.add(new Mark(log.size(), offs));
        return marks.size() - 1;
    }

    int restore(int mark) {
        if (mark < 0 || mark >= marks.size()) {
            return BAD;
        }
        if (log.size() == 60) {
            return FULL;
        }
        Mark back = marks.get(mark);
        log.add(new Change(4, NONE, back.version, log.isEmpty() ? 0 : last().time, null));
        for (int i = 0; i < all.size(); i++) {
            all.get(i).offs = i < back.offs.size() ? new HashSet<>(back.offs.get(i)) : new HashSet<>();
            lost += all.get(i).waiting.size();
            all.get(i).waiting.clear();
        }
        return log.size();
    }

    int same(int a, int b) {
        return noTask(a) || noTask(b) ? BAD : holds(all.get(a)).equals(holds(all.get(b))) ? 1 : 0;
    }

    int count(int what) {
        int[] plain = {all.size(), log.size(), names.size(), lost, judged, failures, marks.size()};
        if (what >= 0 && what < plain.length) {
            return plain[what];
        }
        for (int x = 0; x < all.size(); x++) {
            Task task = all.get(x);
            int[] of = {task.applied, task.judged, task.waiting.size(), Math.min(40, task.outs.size())};
            for (int i = 0; i < of.length; i++) {
                if (what == 10 * (i + 1) + x) {
                    return of[i];
                }
            }
        }
        return BAD;
    }

    int clear() {
        int were = log.size();
        text = new StringBuilder();
        log = new ArrayList<>();
        names = new ArrayList<>();
        all = new ArrayList<>(List.of(new Task()));
        marks = new ArrayList<>();
        alike = false;
        asOf = false;
        fault = 0;
        lost = 0;
        judged = 0;
        failures = 0;
        return were;
    }

    private Change last() {
        return log.get(log.size() - 1);
    }

    private boolean noTask(int task) {
        return task < 0 || task >= all.size();
    }

    private ModelText textOf(State state) {
        return log.get(state.text - 1).text;
    }

    private TreeMap<Integer, State> version(int n) {
        TreeMap<Integer, State> made = new TreeMap<>();
        for (int i = 1; i <= n; i++) {
            Change change = log.get(i - 1);
            switch (change.kind) {
                case 1 -> made.put(change.rule, new State(i, true));
                case 2 -> made.remove(change.rule);
                case 3 -> made.put(change.rule, new State(made.get(change.rule).text, false));
                default -> made = version(change.back);
            }
        }
        return made;
    }

    private Set<Integer> offsHeld(Task task) {
        Set<Integer> held = new TreeSet<>();
        version(task.applied).forEach((rule, state) -> {
            if (!state.on || task.offs.contains(state.text)) {
                held.add(rule);
            }
        });
        return held;
    }

    private String holds(Task task) {
        StringBuilder held = new StringBuilder();
        version(task.applied).forEach((rule, state) -> held.append(rule).append(':').append(state.text).append(' '));
        return held.append(offsHeld(task)).toString();
    }

    private static Out outOf(Task task, int i) {
        return i < 0 || i >= 40 || i >= task.outs.size() ? null : task.outs.get(task.outs.size() - 1 - i);
    }

    private static int indexOfSame(List<Row> rows, Row row) {
        for (int i = 0; i < rows.size(); i++) {
            if (rows.get(i) == row) {
                return i;
            }
        }
        throw new IllegalStateException();
    }

    private int comes(Task task, Row row) {
        if (task.applied >= row.version) {
            return judge(task, row);
        }
        if (task.waiting.size() == 6) {
            return FULL;
        }
        task.waiting.add(row);
        return WAITS;
    }

    private int judge(Task task, Row row) {
        int came = 0;
        for (var entry : version(row.version).entrySet()) {
            State state = entry.getValue();
            if (!state.on || task.offs.contains(state.text)) {
                continue;
            }
            ModelText.Answer answer = textOf(state).judges(row.k, row.t, row.v, task.judged);
            if (answer.failure() == 0) {
                answer.values().forEach(value -> task.outs.add(new Out(value, entry.getKey())));
                came += answer.values().size();
                continue;
            }
            failures++;
            task.failure = new int[] {answer.failure(), entry.getKey(), state.text};
            task.offs.add(state.text);
            if (alike && log.size() < 60 && state.equals(version(log.size()).get(entry.getKey()))) {
                log.add(new Change(3, entry.getKey(), NONE, Math.max(row.t, last().time), null));
            }
        }
        task.judged++;
        judged++;
        return came;
    }
}
