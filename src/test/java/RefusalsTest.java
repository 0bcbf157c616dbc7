import java.util.ArrayList;
import java.util.List;
import java.util.function.Consumer;
import java.util.function.ToLongFunction;

/**
 * Refusals: BAD ahead of FULL, and a call that answers one of them changes nothing. For that, two objects go through
 * the same calls, one of them with the refused call besides; all that they answer later must be alike. An object has
 * 512 calls, so that each of the later runs has a pair of its own.
 */
public final class RefusalsTest extends Checks {
    /** Times: those of the changes are below, a row of LATER has the latest version. */
    private static final long LATER = 100;

    private RefusalsTest() {
    }

    public static void main(String[] args) {
        statesAreAsSaid();
        badOfTexts();
        badOfTasks();
        badOfRules();
        badOfNumbers();
        full();
        badAheadOfFull();
        failuresAndFaults();
        asking();
        Due.end();
    }

    // The states.

    private static void young(RuleBroadcast x) {
        is("count(1) of a new one", x.count(1), 0);
    }

    /** Something of everything, and room for more. Rule 3 was dropped; marks 0 and 1, tasks 0 to 2. */
    private static void busy(RuleBroadcast x) {
        x.tasks(3);
        told(x, "a by v out 1/v,k", 10);
        told(x, "b by 1/k if k>0 out pick(k-1:5,6)", 10);
        told(x, "c out n", 20);
        told(x, "d out 4", 20);
        x.apply(0, 60);
        x.apply(1, 2);
        x.mark();
        x.row(0, 1, 0, 1);
        x.row(0, 3, 0, 1);
        x.drop(3, 25);
        x.alike(true);
        x.row(0, 1, 30, 0);
        x.asOf(true);
        x.row(2, 1, LATER, 1);
        x.restore(0);
        x.mark();
        x.row(0, 2, 20, 1);
        x.row(1, 7, 20, 1);
        x.row(1, 6, 20, 1);
        x.row(1, 8, LATER, 1);
        x.row(2, 9, 10, 1);
        told(x, "a out", 30);
        Due.feed(x, "e out 5,k");
        is("count(1) of a busy one", x.count(1), 7);
    }

    /** As busy, but no room for a mark, a byte, or a row that waits at task 2. */
    private static void brim(RuleBroadcast x) {
        busy(x);
        x.mark();
        x.mark();
        afterAllMarks(x);
        for (int i = 0; i < 9; i++) {
            Due.feed(x, " +" + i);
        }
        is("count(6) of one with room in the log alone", x.count(6), 4);
    }

    /** As brim, and THE LOG is full; rule 7 was dropped, too. */
    private static void full(RuleBroadcast x) {
        busy(x);
        x.keep(0);
        x.mark();
        x.mark();
        afterAllMarks(x);
        for (int i = 9; i <= 59; i++) {
            told(x, "cefgh".charAt(i % 5) + " out n/v,2", 40);
        }
        told(x, "a out 1,!", 40);
        x.drop(7, 40);
        for (int i = 0; i < 10; i++) {
            Due.feed(x, " +" + i);
        }
        is("count(1) of a full one", x.count(1), 60);
    }

    /** A failure makes a change and offs that no mark has; and six rows wait at task 2. */
    private static void afterAllMarks(RuleBroadcast x) {
        x.row(0, 1, 10, 0);
        for (int i = 0; i < 5; i++) {
            x.row(2, 10 + i, LATER, 1);
        }
    }

    private static void told(RuleBroadcast x, String text, long time) {
        Due.feed(x, text);
        x.rule(time);
    }

    // The later runs: each writes down what it is answered.

    private static final List<ToLongRun> LATER_RUNS = List.of(
            RefusalsTest::counts, RefusalsTest::outsOfTasks, RefusalsTest::outsOfMoreTasks, RefusalsTest::changes,
            RefusalsTest::versions, RefusalsTest::latestRules, RefusalsTest::bytes, RefusalsTest::textIsRead,
            RefusalsTest::moreBytes, RefusalsTest::ways, RefusalsTest::rowsThatWait, RefusalsTest::rowsThatCome,
            RefusalsTest::marks, RefusalsTest::tasksGo, RefusalsTest::tasksCome, RefusalsTest::cleared);

    private interface ToLongRun {
        void run(RuleBroadcast x, List<Long> answers);
    }

    private static void counts(RuleBroadcast x, List<Long> answers) {
        for (int what = -1; what <= 46; what++) {
            answers.add((long) x.count(what));
        }
        answers.add((long) x.fault());
        for (int task = 0; task < 6; task++) {
            for (int what = 0; what < 3; what++) {
                answers.add((long) x.failed(task, what));
            }
            answers.add((long) x.same(0, task));
        }
    }

    private static void outs(RuleBroadcast x, List<Long> answers, int task, int most) {
        for (int i = 0; i < most; i++) {
            answers.add(x.out(task, i));
            answers.add((long) x.from(task, i));
        }
    }

    private static void outsOfTasks(RuleBroadcast x, List<Long> answers) {
        outs(x, answers, 0, 41);
        outs(x, answers, 1, 41);
    }

    private static void outsOfMoreTasks(RuleBroadcast x, List<Long> answers) {
        outs(x, answers, 2, 41);
        outs(x, answers, 3, 5);
        outs(x, answers, 4, 5);
        outs(x, answers, 5, 5);
    }

    private static void changes(RuleBroadcast x, List<Long> answers) {
        for (int n = 0; n <= 61; n++) {
            answers.add((long) x.change(n, 0));
            answers.add((long) x.change(n, 1));
            answers.add((long) x.change(n, 2));
            answers.add(x.when(n));
        }
        for (long time : new long[] {MIN, 10, 20, 25, 30, 40, 41, MAX}) {
            answers.add((long) x.at(time));
        }
    }

    private static void versions(RuleBroadcast x, List<Long> answers) {
        for (int n = 0; n <= 60; n++) {
            answers.add((long) x.rules(n, 0, 1));
            answers.add((long) x.rules(n, 1, 2));
            answers.add((long) x.rules(n, 3, 0));
            answers.add((long) x.rules(n, 4, 1));
        }
    }

    private static void latestRules(RuleBroadcast x, List<Long> answers) {
        int latest = x.count(1);
        for (int rule = 0; rule < 8; rule++) {
            for (int what = 0; what < 3; what++) {
                answers.add((long) x.rules(latest, rule, what));
            }
            answers.add((long) x.goes(rule, 5, 4, 2));
            answers.add((long) x.goes(rule, 0, 4, 0));
            answers.add((long) x.tries(rule, 2, 4, 2));
            answers.add((long) x.tries(rule, 9, 4, 0));
            for (int task = 0; task < 6; task++) {
                answers.add((long) x.off(task, rule));
            }
        }
    }

    private static void bytes(RuleBroadcast x, List<Long> answers) {
        answers.add((long) x.keep(0));
        answers.add((long) x.keep(1));
    }

    private static void textIsRead(RuleBroadcast x, List<Long> answers) {
        answers.add((long) x.rule(MAX));
        answers.add((long) x.fault());
        answers.add((long) x.asOf(false));
        answers.add((long) x.apply(0, 60));
        answers.add((long) x.row(0, 3, LATER, 3));
        outs(x, answers, 0, 12);
        latestRules(x, answers);
        nameIsTold(x, answers);
    }

    /** Whether the text before was told by this name shows in how many names there are then. */
    private static void nameIsTold(RuleBroadcast x, List<Long> answers) {
        x.keep(0);
        Due.feed(x, "e out 7");
        answers.add((long) x.rule(MAX));
        answers.add((long) x.fault());
        answers.add((long) x.count(2));
    }

    private static void moreBytes(RuleBroadcast x, List<Long> answers) {
        answers.add((long) Due.feed(x, ",6"));
        answers.add((long) x.rule(LATER));
        answers.add((long) x.fault());
        answers.add((long) x.tries(4, 0, 0, 0));
        nameIsTold(x, answers);
    }

    private static void ways(RuleBroadcast x, List<Long> answers) {
        answers.add((long) x.alike(false));
        answers.add((long) x.asOf(false));
    }

    private static void rowsThatWait(RuleBroadcast x, List<Long> answers) {
        for (int task = 0; task < 3; task++) {
            for (int i = 0; i < 8; i++) {
                answers.add((long) x.apply(task, 1));
                answers.add((long) x.count(30 + task));
            }
            answers.add((long) x.apply(task, 60));
            outs(x, answers, task, 24);
        }
    }

    private static void rowsThatCome(RuleBroadcast x, List<Long> answers) {
        for (int task = 0; task < 3; task++) {
            answers.add((long) x.row(task, 1, LATER, 0));
            answers.add((long) x.row(task, 1, 10, 0));
            answers.add((long) x.row(task, 2, 20, 1));
            answers.add((long) x.send(0, 2, 20, 1));
            answers.add((long) x.send(1, 1, LATER, task));
            outs(x, answers, task, 12);
        }
        for (int what = 0; what <= 6; what++) {
            answers.add((long) x.count(what));
        }
    }

    private static void marks(RuleBroadcast x, List<Long> answers) {
        // No mark() ahead of these: were it refused at both, it would hide what it changes.
        for (int mark = 0; mark <= 3; mark++) {
            int changes = x.restore(mark);
            answers.add((long) changes);
            answers.add((long) x.change(changes, 2));
            answers.add((long) x.count(3));
            for (int task = 0; task < 3; task++) {
                answers.add((long) x.apply(task, 60));
                for (int rule = 0; rule < 6; rule++) {
                    answers.add((long) x.off(task, rule));
                }
            }
        }
        answers.add((long) x.mark());
    }

    private static void tasksGo(RuleBroadcast x, List<Long> answers) {
        answers.add((long) x.tasks(2));
        counts(x, answers);
        answers.add((long) x.tasks(1));
        counts(x, answers);
        answers.add((long) x.apply(0, 60));
        outs(x, answers, 0, 24);
    }

    private static void tasksCome(RuleBroadcast x, List<Long> answers) {
        answers.add((long) x.tasks(6));
        counts(x, answers);
        latestRules(x, answers);
    }

    private static void cleared(RuleBroadcast x, List<Long> answers) {
        answers.add((long) x.clear());
        counts(x, answers);
    }

    // The calls.

    private static void states(String call, long want, ToLongFunction<RuleBroadcast> asked) {
        unchanged("busy: " + call, want, RefusalsTest::busy, asked);
        unchanged("brim: " + call, want, RefusalsTest::brim, asked);
        unchanged("full: " + call, want, RefusalsTest::full, asked);
    }

    private static void unchanged(String call, long want, Consumer<RuleBroadcast> state,
            ToLongFunction<RuleBroadcast> asked) {
        for (int i = 0; i < LATER_RUNS.size(); i++) {
            RuleBroadcast with = new RuleBroadcast();
            RuleBroadcast without = new RuleBroadcast();
            state.accept(with);
            state.accept(without);
            is(call, asked.applyAsLong(with), want);
            List<Long> got = new ArrayList<>();
            List<Long> due = new ArrayList<>();
            LATER_RUNS.get(i).run(with, got);
            LATER_RUNS.get(i).run(without, due);
            for (int j = 0; j < due.size(); j++) {
                is("answer " + j + " of later run " + i + " behind " + call, got.get(j), due.get(j));
            }
        }
    }

    /** The states are what they are said to be: else the calls below would show nothing. */
    private static void statesAreAsSaid() {
        in("the states");
        RuleBroadcast x = new RuleBroadcast();
        busy(x);
        int[][] due = {{0, 3}, {1, 7}, {2, 4}, {3, 1}, {4, 4}, {5, 2}, {6, 2}, {10, 4}, {11, 2}, {12, 0}, {20, 4},
            {30, 0}, {31, 3}, {32, 1}};
        for (int[] one : due) {
            is("count(" + one[0] + ") of a busy one", x.count(one[0]), one[1]);
        }
        is("fault()", x.fault(), 2);
        is("keep(20)", x.keep(20), 0);
        is("keep(21)", x.keep(21), BAD);
        for (int full = 0; full <= 1; full++) {
            RuleBroadcast y = new RuleBroadcast();
            if (full == 0) {
                brim(y);
            } else {
                full(y);
            }
            is("count(32)", y.count(32), 6);
            is("count(6)", y.count(6), 4);
            is("count(1)", y.count(1), full == 0 ? 8 : 60);
            is("off(0, 0)", y.off(0, 0), 1);
            is("fault()", y.fault(), full == 0 ? 2 : 1);
            is("count(2)", y.count(2), full == 0 ? 4 : 8);
            is("keep(200)", y.keep(200), 0);
        }
    }

    private static void badOfTexts() {
        in("BAD changes nothing: keep, rule");
        unchanged("young: keep(1)", BAD, RefusalsTest::young, x -> x.keep(1));
        unchanged("young: keep(-1)", BAD, RefusalsTest::young, x -> x.keep(-1));
        for (int n : new int[] {LEAST_INT, -1, 201, GREATEST_INT}) {
            states("keep(" + n + ")", BAD, x -> x.keep(n));
        }
        unchanged("busy: keep(21)", BAD, RefusalsTest::busy, x -> x.keep(21));
        for (long time : new long[] {MIN, 0, 29}) {
            states("rule(" + time + ")", BAD, x -> x.rule(time));
        }
        unchanged("full: rule(39)", BAD, RefusalsTest::full, x -> x.rule(39));
    }

    private static void badOfTasks() {
        in("BAD changes nothing: tasks, and a TASK that there is not");
        for (int n : new int[] {LEAST_INT, -1, 0, 7, GREATEST_INT}) {
            unchanged("young: tasks(" + n + ")", BAD, RefusalsTest::young, x -> x.tasks(n));
            states("tasks(" + n + ")", BAD, x -> x.tasks(n));
        }
        for (int task : new int[] {LEAST_INT, -1, 3, 6, GREATEST_INT}) {
            unchanged("young: row(" + task + ")", BAD, RefusalsTest::young, x -> x.row(task, 1, 1, 0));
            states("row(" + task + ")", BAD, x -> x.row(task, 1, LATER, 0));
            states("row(" + task + ")", BAD, x -> x.row(task, 1, MIN, 0));
            states("apply(" + task + ", 1)", BAD, x -> x.apply(task, 1));
            states("from(" + task + ", 0)", BAD, x -> x.from(task, 0));
            states("off(" + task + ", 0)", BAD, x -> x.off(task, 0));
            states("failed(" + task + ", 0)", BAD, x -> x.failed(task, 0));
            states("same(" + task + ", 0)", BAD, x -> x.same(task, 0));
            states("same(0, " + task + ")", BAD, x -> x.same(0, task));
            states("out(" + task + ", 0)", 0, x -> x.out(task, 0));
        }
    }

    private static void badOfRules() {
        in("BAD changes nothing: a RULE that is not there");
        for (int rule : new int[] {LEAST_INT, -1, 8, GREATEST_INT}) {
            states("drop(" + rule + ", 100)", BAD, x -> x.drop(rule, LATER));
            states("goes(" + rule + ")", BAD, x -> x.goes(rule, 1, LATER, 0));
            states("send(" + rule + ")", BAD, x -> x.send(rule, 1, LATER, 0));
            states("tries(" + rule + ")", BAD, x -> x.tries(rule, 1, LATER, 0));
            states("off(0, " + rule + ")", BAD, x -> x.off(0, rule));
            states("rules(0, " + rule + ", 0)", BAD, x -> x.rules(0, rule, 0));
        }
        Consumer<RuleBroadcast> dropped = x -> {
            brim(x);
            x.drop(2, LATER);
        };
        unchanged("drop() again", BAD, dropped, x -> x.drop(2, LATER));
        unchanged("send() of what was dropped", BAD, dropped, x -> x.send(2, 2, LATER, 0));
        unchanged("tries() of what was dropped", BAD, dropped, x -> x.tries(2, 1, LATER, 0));
        for (long time : new long[] {MIN, 0, 29}) {
            states("drop(0, " + time + ")", BAD, x -> x.drop(0, time));
        }
    }

    private static void badOfNumbers() {
        in("BAD changes nothing: other numbers that are none");
        for (int n : new int[] {LEAST_INT, -1, 61, GREATEST_INT}) {
            unchanged("young: apply(0, " + n + ")", BAD, RefusalsTest::young, x -> x.apply(0, n));
            states("apply(1, " + n + ")", BAD, x -> x.apply(1, n));
            states("rules(" + n + ", 0, 0)", BAD, x -> x.rules(n, 0, 0));
            states("change(" + n + ", 0)", BAD, x -> x.change(n, 0));
            states("restore(" + n + ")", BAD, x -> x.restore(n));
            states("rules(1, 0, " + n + ")", BAD, x -> x.rules(1, 0, n));
            states("change(1, " + n + ")", BAD, x -> x.change(1, n));
            states("failed(0, " + n + ")", BAD, x -> x.failed(0, n));
            states("count(" + n + ")", BAD, x -> x.count(n));
            states("when(" + n + ")", 0, x -> x.when(n));
        }
        unchanged("young: restore(0)", BAD, RefusalsTest::young, x -> x.restore(0));
        unchanged("busy: restore(2)", BAD, RefusalsTest::busy, x -> x.restore(2));
        states("restore(4)", BAD, x -> x.restore(4));
        states("count(7)", BAD, x -> x.count(7));
        states("count(13)", BAD, x -> x.count(13));
    }

    private static void full() {
        in("FULL changes nothing");
        unchanged("brim: feed()", FULL, RefusalsTest::brim, x -> x.feed(1, 2, 3, 4, 5));
        unchanged("full: feed()", FULL, RefusalsTest::full, x -> x.feed(1, 2, 3, 4, 5));
        unchanged("brim of 181 bytes: feed()", FULL, x -> {
            brim(x);
            x.keep(181);
        }, x -> x.feed(1, 2, 3, 4, 5));
        unchanged("full: rule(40)", FULL, RefusalsTest::full, x -> x.rule(40));
        unchanged("full: rule(MAX)", FULL, RefusalsTest::full, x -> x.rule(MAX));
        unchanged("full: drop(0, 40)", FULL, RefusalsTest::full, x -> x.drop(0, 40));
        unchanged("full: drop(0, MAX)", FULL, RefusalsTest::full, x -> x.drop(0, MAX));
        for (int mark = 0; mark < 4; mark++) {
            int number = mark;
            unchanged("full: restore(" + mark + ")", FULL, RefusalsTest::full, x -> x.restore(number));
        }
        unchanged("brim: mark()", FULL, RefusalsTest::brim, x -> x.mark());
        unchanged("full: mark()", FULL, RefusalsTest::full, x -> x.mark());
        unchanged("brim: row()", FULL, RefusalsTest::brim, x -> x.row(2, 1, LATER, 0));
        unchanged("full: row()", FULL, RefusalsTest::full, x -> x.row(2, 1, LATER, 0));
        unchanged("brim: send()", FULL, RefusalsTest::brim, x -> x.send(0, 1, LATER, 2));
        unchanged("full: send()", FULL, RefusalsTest::full, x -> x.send(0, 1, LATER, 2));
    }

    private static void badAheadOfFull() {
        in("of both BAD first");
        unchanged("full: rule(39)", BAD, RefusalsTest::full, x -> x.rule(39));
        unchanged("full: rule(MIN)", BAD, RefusalsTest::full, x -> x.rule(MIN));
        unchanged("full: drop(0, 39)", BAD, RefusalsTest::full, x -> x.drop(0, 39));
        unchanged("full: drop(-1, 40)", BAD, RefusalsTest::full, x -> x.drop(-1, 40));
        unchanged("full: drop(8, 40)", BAD, RefusalsTest::full, x -> x.drop(8, 40));
        unchanged("full: drop(8, 39)", BAD, RefusalsTest::full, x -> x.drop(8, 39));
        unchanged("full: restore(4)", BAD, RefusalsTest::full, x -> x.restore(4));
        unchanged("full: restore(-1)", BAD, RefusalsTest::full, x -> x.restore(-1));
        unchanged("full: row(3)", BAD, RefusalsTest::full, x -> x.row(3, 1, LATER, 0));
        unchanged("full: send(8)", BAD, RefusalsTest::full, x -> x.send(8, 2, LATER, 2));
        Consumer<RuleBroadcast> dropped = x -> {
            busy(x);
            x.drop(2, LATER);
            for (int i = 9; i <= 60; i++) {
                x.restore(1);
                x.drop(2, LATER);
            }
        };
        RuleBroadcast y = new RuleBroadcast();
        dropped.accept(y);
        is("count(1)", y.count(1), 60);
        is("rules(60, 2, 0)", y.rules(60, 2, 0), 0);
        unchanged("a full log: drop() of what was dropped", BAD, dropped, x -> x.drop(2, LATER));
    }

    private static void failuresAndFaults() {
        in("12: -10 less a FAILURE, as goes(): no ROW comes");
        unchanged("busy: send(1) by 0", -11, RefusalsTest::busy, x -> x.send(1, 0, LATER, 0));
        unchanged("brim: send(1) by 0", -11, RefusalsTest::brim, x -> x.send(1, 0, LATER, 0));
        in("4: a FAULT leaves all as it was but THE TEXT and what fault() tells");
        Consumer<RuleBroadcast> withFault = x -> {
            busy(x);
            x.keep(0);
        };
        // The fault there is 2 already, and an empty text has the same one.
        unchanged("busy: rule() of nothing", -10, withFault, x -> x.rule(30));
        unchanged("busy: rule() of nothing", -10, withFault, x -> x.rule(MAX));
    }

    private static void asking() {
        in("what only asks changes nothing");
        unchanged("busy: fault()", 2, RefusalsTest::busy, x -> x.fault());
        unchanged("busy: goes()", 2, RefusalsTest::busy, x -> x.goes(0, 1, LATER, 2));
        unchanged("busy: goes() by 0", -11, RefusalsTest::busy, x -> x.goes(1, 0, LATER, 2));
        unchanged("busy: tries()", 2, RefusalsTest::busy, x -> x.tries(0, 1, LATER, 2));
        unchanged("busy: tries() by 0", -11, RefusalsTest::busy, x -> x.tries(0, 1, LATER, 0));
        unchanged("busy: tries() of no place", -12, RefusalsTest::busy, x -> x.tries(1, 9, LATER, 0));
        // The latest row of task 0 was judged by version 4, as of 20: rule 3 gave 4 there.
        unchanged("busy: out()", 4, RefusalsTest::busy, x -> x.out(0, 0));
        unchanged("busy: from()", 3, RefusalsTest::busy, x -> x.from(0, 0));
        unchanged("busy: at()", 7, RefusalsTest::busy, x -> x.at(LATER));
        unchanged("busy: rules()", 1, RefusalsTest::busy, x -> x.rules(7, 0, 1));
        unchanged("busy: off()", 0, RefusalsTest::busy, x -> x.off(0, 2));
        unchanged("busy: change()", 4, RefusalsTest::busy, x -> x.change(7, 2));
        unchanged("busy: when()", 30, RefusalsTest::busy, x -> x.when(7));
        unchanged("busy: failed()", 1, RefusalsTest::busy, x -> x.failed(0, 0));
        unchanged("busy: same()", 0, RefusalsTest::busy, x -> x.same(0, 1));
        unchanged("busy: count()", 3, RefusalsTest::busy, x -> x.count(0));
        unchanged("busy: keep(20)", 0, RefusalsTest::busy, x -> x.keep(20));
        unchanged("busy: apply(1, 0)", 0, RefusalsTest::busy, x -> x.apply(1, 0));
        unchanged("busy: tasks(3)", 3, RefusalsTest::busy, x -> x.tasks(3));
        unchanged("busy: alike(true)", 1, RefusalsTest::busy, x -> x.alike(true));
        unchanged("busy: asOf(true)", 1, RefusalsTest::busy, x -> x.asOf(true));
    }
}
