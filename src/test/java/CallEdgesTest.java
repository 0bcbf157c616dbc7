/** Promises 1 to 27: each sentence that names a boundary, at the boundary and on both sides of it. */
public final class CallEdgesTest extends Checks {
    private CallEdgesTest() {
    }

    public static void main(String[] args) {
        calls();
        promise1();
        promise2();
        promise3();
        promise4();
        promise5();
        promise6();
        promise7();
        promise8();
        promise9();
        promise10();
        promise11();
        promise12();
        promise13();
        promise14And15();
        promise16();
        promise17();
        promise18();
        promise19();
        promise20();
        promise21();
        promise22();
        promise23();
        promise24();
        promise25();
        promise26();
        promise27();
        Due.end();
    }

    private static void calls() {
        in("An object is used for at most 512 calls after it has been made");
        RuleBroadcast x = new RuleBroadcast();
        x.feed(0x61206f75, 0x74206e20, 0x20202020, 0x20202020, 0x20202020);
        is("rule(0)", x.rule(0), 1);
        is("apply(0, 1)", x.apply(0, 1), 1);
        for (int call = 4; call <= 509; call++) {
            is("row(), call " + call, x.row(0, 0, 0, 0), 1);
        }
        is("count(20), call 510", x.count(20), 506);
        is("out(0, 39), call 511", x.out(0, 39), 466);
        is("out(0, 0), call 512", x.out(0, 0), 505);
    }

    private static void promise1() {
        in("1: No bytes, CHANGES, MARKS; one TASK; neither ALIKE nor AS OF.");
        RuleBroadcast x = new RuleBroadcast();
        is("keep(1)", x.keep(1), BAD);
        is("keep(0)", x.keep(0), 0);
        is("feed()", x.feed(0, 0, 0, 0, 0), 20);
        RuleBroadcast y = new RuleBroadcast();
        is("count(1)", y.count(1), 0);
        is("change(1, 0)", y.change(1, 0), BAD);
        is("when(1)", y.when(1), 0);
        is("at(MAX)", y.at(MAX), 0);
        is("apply(0, 60)", y.apply(0, 60), 0);
        is("restore(0)", y.restore(0), BAD);
        is("mark()", y.mark(), 0);
        is("count(0)", y.count(0), 1);
        is("row(0)", y.row(0, 0, 0, 0), 0);
        is("row(1)", y.row(1, 0, 0, 0), BAD);
        is("tasks(1)", y.tasks(1), 1);
        RuleBroadcast z = with("a out 1/v");
        is("row() does not wait", z.row(0, 0, 10, 0), 0);
        z.apply(0, 1);
        is("row() that fails", z.row(0, 0, 10, 0), 0);
        is("count(1)", z.count(1), 1);
        is("alike(false)", z.alike(false), 0);
        is("asOf(false)", z.asOf(false), 0);
    }

    private static void promise2() {
        in("2: Twenty bytes come behind THE TEXT, the highest of each number first: how many it has.");
        RuleBroadcast x = new RuleBroadcast();
        // The word out and the number 123 stand across the ends of numbers and of feeds.
        is("feed", x.feed(0x61202020, 0x20202020, 0x20202020, 0x20202020, 0x20206f75), 20);
        is("feed", x.feed(0x74202020, 0x20202020, 0x20202020, 0x20202020, 0x20202031), 40);
        is("feed", x.feed(0x32332c6b, 0x2c762020, 0x20202020, 0x20202020, 0x20202020), 60);
        is("rule(0)", x.rule(0), 1);
        x.apply(0, 1);
        is("row()", x.row(0, 5, 0, 6), 3);
        cameOut(x, 0, 6, 5, 123);
        is("feed", x.feed(0x200a2080, 0, 0, 0, 0), 20);
        is("rule(0), a number that is not below 0 and one that is", x.rule(0), -13);
        is("feed", x.feed(0xff202020, 0, 0, 0, 0), 20);
        is("rule(0)", x.rule(0), -10);
        in("2: FULL.");
        for (int kept : new int[] {0, 1, 179, 180, 181, 199, 200}) {
            RuleBroadcast y = new RuleBroadcast();
            for (int i = 1; i <= 10; i++) {
                is("feed " + i, y.feed(i, i, i, i, i), 20 * i);
            }
            is("keep(" + kept + ")", y.keep(kept), 200 - kept);
            is("feed behind " + kept, y.feed(0, 0, 0, 0, 0), kept <= 180 ? kept + 20 : FULL);
            is("keep(0)", y.keep(0), kept <= 180 ? kept + 20 : kept);
        }
    }

    private static void promise3() {
        in("3: THE TEXT keeps its first n bytes: how many went. BAD.");
        RuleBroadcast x = new RuleBroadcast();
        is("keep(-1) of 0", x.keep(-1), BAD);
        is("keep(0) of 0", x.keep(0), 0);
        is("keep(1) of 0", x.keep(1), BAD);
        Due.feed(x, "a out 7654");
        for (int n : new int[] {LEAST_INT, -200, -1, 21, 22, 200, 201, GREATEST_INT}) {
            is("keep(" + n + ") of 20", x.keep(n), BAD);
        }
        is("keep(20) of 20", x.keep(20), 0);
        is("keep(19) of 20", x.keep(19), 1);
        is("keep(20) of 19", x.keep(20), BAD);
        is("keep(8) of 19", x.keep(8), 11);
        is("rule(0)", x.rule(0), 1);
        x.apply(0, 1);
        x.row(0, 0, 0, 0);
        cameOut(x, 0, 76);
        Due.feed(x, "a");
        is("keep(0) of 20", x.keep(0), 20);
        is("keep(1) of 0", x.keep(1), BAD);
    }

    private static void promise4() {
        in("4: THE TEXT, which is empty then (not with BAD, FULL), is TOLD as a RULE: THE LATEST VERSION then");
        RuleBroadcast x = new RuleBroadcast();
        Due.feed(x, "a out 1");
        is("rule(5)", x.rule(5), 1);
        is("keep(1), it is empty", x.keep(1), BAD);
        is("rule(5) of nothing", x.rule(5), -10);
        Due.feed(x, "a out");
        is("rule(5) with a fault", x.rule(5), -30);
        is("keep(1), it is empty", x.keep(1), BAD);
        Due.feed(x, "a out 2");
        is("rule(4)", x.rule(4), BAD);
        is("keep(20), it is not empty", x.keep(20), 0);
        is("rule(5)", x.rule(5), 2);
        is("keep(1), it is empty", x.keep(1), BAD);
        in("4: -10 less the place of its FAULT.");
        tell(x, "!", 5, -10);
        tell(x, " !", 5, -11);
        tell(x, " ".repeat(199) + "!", 5, -209);
        tell(x, "a out" + " ".repeat(194), 5, -209);
        tell(x, "a out" + " ".repeat(195), 5, -210);
        is("count(1)", x.count(1), 2);
        is("rule(4) of nothing, BAD ahead of its fault", x.rule(4), BAD);
        in("4: BAD: time is below that of the latest CHANGE. FULL: 60 CHANGES.");
        fill(x, "a out 3", 5, 59);
        Due.feed(x, "a out 4");
        is("rule(4) with 59", x.rule(4), BAD);
        is("rule(5) with 59", x.rule(5), 60);
        Due.feed(x, "!");
        is("rule(4) with 60, both", x.rule(4), BAD);
        is("rule(5) with 60", x.rule(5), FULL);
        is("rule(MAX) with 60", x.rule(MAX), FULL);
        is("keep(0), it is not empty", x.keep(0), 20);
        is("rule(5) with 60, of nothing", x.rule(5), FULL);
        is("rule(MIN) with 60, of nothing", x.rule(MIN), BAD);
    }

    private static void promise5() {
        in("5: The FAULT of the latest rule() that read THE TEXT; 0: it had none, or there was none.");
        RuleBroadcast x = new RuleBroadcast();
        is("fault() of none", x.fault(), 0);
        String[] texts = {"!", "a", "a out " + "-".repeat(13) + "1", "a out 1"};
        int[] answers = {-10, -11, -28, 1};
        int[] due = {1, 2, 3, 0};
        for (int i = 0; i < texts.length; i++) {
            tell(x, texts[i], 5, answers[i]);
            is("fault() of " + texts[i], x.fault(), due[i]);
        }
        for (int i = 2; i <= 8; i++) {
            tell(x, "a".repeat(i) + " out 1", 5, i);
        }
        tell(x, "b out 1", 5, -10);
        is("fault() of a ninth name", x.fault(), 4);
        tell(x, "a out 1", 4, BAD);
        is("fault() behind one that was BAD", x.fault(), 4);
        x.drop(0, 5);
        x.row(0, 0, 0, 0);
        is("fault() behind other calls", x.fault(), 4);
        x.keep(0);
        fill(x, "a out 1", 5, 59);
        is("fault()", x.fault(), 0);
        tell(x, "!", 5, -10);
        is("drop(0, 5) as the 60th", x.drop(0, 5), 60);
        tell(x, "a out 1", 5, FULL);
        is("fault() behind one that was FULL", x.fault(), 1);
        RuleBroadcast y = new RuleBroadcast();
        tell(y, "!", 5, -10);
        y.clear();
        is("fault() behind clear()", y.fault(), 0);
    }

    private static void promise6() {
        in("6: A RULE is DROPPED: THE LATEST VERSION then. BAD: it is not there in THE LATEST VERSION");
        RuleBroadcast x = new RuleBroadcast();
        is("drop(0, 0) of none", x.drop(0, 0), BAD);
        tell(x, "a out 1", 5, 1);
        tell(x, "b out 1", 5, 2);
        x.apply(0, 60);
        x.mark();
        for (int rule : new int[] {LEAST_INT, -1, 2, 7, 8, 9, GREATEST_INT}) {
            is("drop(" + rule + ", 5)", x.drop(rule, 5), BAD);
        }
        is("drop(1, 5)", x.drop(1, 5), 3);
        is("drop(1, 5) again, though the task has it", x.drop(1, 5), BAD);
        is("off(0, 1)", x.off(0, 1), 0);
        tell(x, "b out 1", 5, 4);
        is("drop(1, 5)", x.drop(1, 5), 5);
        is("restore(0)", x.restore(0), 6);
        is("drop(1, 5) behind a back", x.drop(1, 5), 7);
        in("6: BAD: .. time, FULL as for rule().");
        is("drop(0, 4)", x.drop(0, 4), BAD);
        fill(x, "b out 1", 5, 60);
        is("drop(0, 5)", x.drop(0, 5), FULL);
        is("drop(0, MAX)", x.drop(0, MAX), FULL);
        is("drop(0, 4), both", x.drop(0, 4), BAD);
        is("drop(2, 5), both", x.drop(2, 5), BAD);
        is("drop(-1, 5), both", x.drop(-1, 5), BAD);
    }

    private static void promise7() {
        in("7: ALIKE or not from now on: 1 if it was, else 0.");
        RuleBroadcast x = with("a out 1/v", "b out 1/v");
        is("alike(false)", x.alike(false), 0);
        is("alike(true)", x.alike(true), 0);
        is("alike(true)", x.alike(true), 1);
        is("alike(false)", x.alike(false), 1);
        is("alike(false)", x.alike(false), 0);
        x.apply(0, 1);
        x.row(0, 0, 10, 0);
        is("count(1), it is not", x.count(1), 2);
        x.alike(true);
        is("count(1), what failed before makes none", x.count(1), 2);
        x.apply(0, 1);
        x.row(0, 0, 10, 0);
        is("count(1), it is", x.count(1), 3);
        is("change(3, 1)", x.change(3, 1), 1);
        is("asOf(false) is another", x.asOf(false), 0);
    }

    private static void promise8() {
        in("8: AS OF or not from now on: 1 if it was, else 0. (ROWS that WAIT keep their VERSION.)");
        RuleBroadcast x = with("a out k", "a out 0-k");
        is("asOf(false)", x.asOf(false), 0);
        is("row() does not wait", x.row(0, 1, 10, 0), 0);
        is("asOf(true)", x.asOf(true), 0);
        is("asOf(true)", x.asOf(true), 1);
        is("row() waits", x.row(0, 2, 10, 0), WAITS);
        is("asOf(false)", x.asOf(false), 1);
        is("asOf(false)", x.asOf(false), 0);
        is("row() does not wait", x.row(0, 3, 10, 0), 0);
        is("count(30)", x.count(30), 1);
        x.apply(0, 1);
        is("count(30), its version is 2", x.count(30), 1);
        is("row()", x.row(0, 4, 10, 0), 1);
        x.apply(0, 1);
        cameOut(x, 0, -2, 4);
        is("alike(false) is another", x.alike(false), 0);
    }

    private static void promise9() {
        in("9: There are n TASKS (1 .. 6) from now on: how many there were. BAD.");
        RuleBroadcast x = with("a out 1/v", "b out 1");
        for (int n : new int[] {LEAST_INT, -1, 0, 7, 8, GREATEST_INT}) {
            is("tasks(" + n + ")", x.tasks(n), BAD);
            is("count(0)", x.count(0), 1);
        }
        is("tasks(1)", x.tasks(1), 1);
        is("tasks(2)", x.tasks(2), 1);
        is("row(2)", x.row(2, 0, 0, 0), BAD);
        is("tasks(6)", x.tasks(6), 2);
        is("row(5)", x.row(5, 0, 0, 0), 0);
        is("row(6)", x.row(6, 0, 0, 0), BAD);
        is("tasks(5)", x.tasks(5), 6);
        is("row(5)", x.row(5, 0, 0, 0), BAD);
        is("tasks(1)", x.tasks(1), 5);
        is("row(1)", x.row(1, 0, 0, 0), BAD);
        in("9: New ones have APPLIED, and the OFFS, as TASK 0 has.");
        x.tasks(2);
        x.apply(0, 1);
        x.apply(1, 2);
        x.row(0, 0, 0, 0);
        is("tasks(4)", x.tasks(4), 2);
        for (int task = 2; task < 4; task++) {
            is("count(1" + task + ")", x.count(10 + task), 1);
            is("off(" + task + ", 0)", x.off(task, 0), 1);
            is("count(2" + task + ")", x.count(20 + task), 0);
            is("count(4" + task + ")", x.count(40 + task), 0);
            is("failed(" + task + ", 0)", x.failed(task, 0), 0);
            is("failed(" + task + ", 1)", x.failed(task, 1), NONE);
        }
        is("count(11), one that is not new", x.count(11), 2);
        is("off(1, 0)", x.off(1, 0), 0);
        x.row(3, 0, 0, 1);
        x.apply(3, 60);
        x.tasks(3);
        is("tasks(4), the last one comes anew", x.tasks(4), 3);
        is("count(13)", x.count(13), 1);
        is("count(23)", x.count(23), 0);
        moduloN();
        seventhIsLost();
        seventhIsJudged();
        eachAsItCame();
    }

    private static void moduloN() {
        in("9: ROWS that WAIT at those that go .. come with their VERSION to the TASK of that number modulo n");
        int[][] due = {{}, {6}, {3, 3}, {2, 2, 2}, {2, 2, 1, 1}, {2, 1, 1, 1, 1}, {1, 1, 1, 1, 1, 1}};
        for (int n = 1; n <= 6; n++) {
            RuleBroadcast x = with("a out k");
            x.tasks(6);
            x.asOf(true);
            for (int task = 0; task < 6; task++) {
                is("row()", x.row(task, task, 10, 0), WAITS);
            }
            is("tasks(" + n + ")", x.tasks(n), 6);
            is("count(3)", x.count(3), 0);
            for (int task = 0; task < n; task++) {
                is("count(3" + task + ") of " + n, x.count(30 + task), due[n][task]);
                x.apply(task, 1);
                for (int i = 0; i < due[n][task]; i++) {
                    is("out()", x.out(task, due[n][task] - 1 - i), task + i * n);
                }
            }
        }
        RuleBroadcast y = with("a out k", "a out 0-k");
        y.tasks(2);
        y.asOf(true);
        y.row(1, 5, 10, 0);
        y.asOf(false);
        tell(y, "a out 9", 10, 3);
        y.tasks(1);
        y.apply(0, 1);
        is("count(30), its version is 2", y.count(30), 1);
        y.apply(0, 1);
        cameOut(y, 0, -5);
    }

    private static void seventhIsLost() {
        in("9: what would WAIT as the seventh one there is LOST.");
        for (int waiting = 4; waiting <= 6; waiting++) {
            RuleBroadcast x = with("a out k");
            x.tasks(2);
            x.asOf(true);
            for (int i = 0; i < waiting; i++) {
                x.row(0, i, 10, 0);
            }
            x.row(1, 100, 10, 0);
            x.row(1, 101, 10, 0);
            is("tasks(1)", x.tasks(1), 2);
            is("count(30)", x.count(30), 6);
            is("count(3) of " + waiting, x.count(3), waiting - 4);
            x.apply(0, 1);
            is("out(0, 0), the first ones stay", x.out(0, 0), waiting == 4 ? 101 : waiting == 5 ? 100 : 5);
            is("count(4), what is lost is not judged", x.count(4), 6);
        }
    }

    private static void seventhIsJudged() {
        in("9: what would WAIT as the seventh one: not what is JUDGED there");
        RuleBroadcast x = with("a out k");
        tell(x, "b out 1", 20, 2);
        x.tasks(2);
        x.apply(0, 1);
        x.asOf(true);
        for (int i = 0; i < 6; i++) {
            is("row()", x.row(0, i, 20, 0), WAITS);
        }
        is("row()", x.row(1, 7, 10, 0), WAITS);
        is("row()", x.row(1, 8, 20, 0), WAITS);
        is("row()", x.row(1, 9, 10, 0), WAITS);
        is("tasks(1)", x.tasks(1), 2);
        is("count(3), the one of 20", x.count(3), 1);
        cameOut(x, 0, 9, 7);
        is("count(30)", x.count(30), 6);
    }

    private static void eachAsItCame() {
        in("9: TASK by TASK, as they came");
        RuleBroadcast x = with("a out k");
        x.tasks(4);
        x.asOf(true);
        x.row(3, 30, 10, 0);
        x.row(2, 20, 10, 0);
        x.row(3, 31, 10, 0);
        x.row(1, 10, 10, 0);
        x.row(2, 21, 10, 0);
        x.row(0, 1, 10, 0);
        is("tasks(1)", x.tasks(1), 4);
        x.apply(0, 1);
        cameOut(x, 0, 31, 30, 21, 20, 10, 1);
        RuleBroadcast y = with("a out 1/v", "b out k");
        y.alike(true);
        y.tasks(2);
        y.apply(0, 60);
        y.asOf(true);
        y.row(1, 1, 10, 0);
        y.row(1, 2, 10, 1);
        is("tasks(1)", y.tasks(1), 2);
        is("count(1), the first of them failed", y.count(1), 3);
        cameOut(y, 0, 2, 1);
    }

    private static void promise10() {
        in("10: A ROW comes to a TASK: how many SUMS came OUT; WAITS. BAD: the TASK");
        RuleBroadcast x = with("a if v>0 out 1,2,3,4", "b if v>1 out 5,6,7,8");
        tell(x, "c out 9", 20, 3);
        x.tasks(3);
        x.apply(0, 2);
        for (int task : new int[] {LEAST_INT, -1, 3, 4, 5, 6, GREATEST_INT}) {
            is("row(" + task + ")", x.row(task, 0, 10, 2), BAD);
        }
        is("row() by none", x.row(0, 0, 10, 0), 0);
        is("row() by one", x.row(0, 0, 10, 1), 4);
        is("row() by two", x.row(0, 0, 10, 2), 8);
        is("row(2)", x.row(2, 0, 10, 2), 0);
        in("10: FULL: it would WAIT as the seventh.");
        x.asOf(true);
        for (int i = 1; i <= 6; i++) {
            is("row() " + i, x.row(0, 0, 20, 0), WAITS);
        }
        is("row() 7", x.row(0, 0, 20, 0), FULL);
        is("row() that need not wait", x.row(0, 0, 10, 2), 8);
        is("row() at another task", x.row(1, 0, 20, 0), WAITS);
        is("row(3), no such task", x.row(3, 0, 20, 0), BAD);
        x.asOf(false);
        is("row() that need not wait", x.row(0, 0, 20, 2), 8);
    }

    private static void promise11() {
        in("11: what stands behind by in its TEXT in THE LATEST VERSION (without by: k) modulo the TASKS, 0 or more");
        for (int n = 1; n <= 6; n++) {
            RuleBroadcast x = with("a out 1", "b by 0-v out 1");
            x.tasks(n);
            for (long k : new long[] {MIN, MIN + 1, -7, -6, -1, 0, 1, 5, 6, 7, MAX - 1, MAX, 1L << 32}) {
                long due = (k % n + n) % n;
                is("goes(0, " + k + ") of " + n, x.goes(0, k, 1, 1), due);
                is("goes(1, .. " + -k + ") of " + n, x.goes(1, 1, 1, -k), due);
            }
        }
        RuleBroadcast x = with("a by t out 1", "b by pick(v:1/t) out 1", "c out 1/v");
        x.tasks(6);
        x.apply(0, 2);
        is("goes(0)", x.goes(0, 1, 4, 1), 4);
        tell(x, "a by t+1 out 1", 10, 4);
        is("goes(0) by the latest text, which no task has", x.goes(0, 1, 4, 1), 5);
        in("11: n is 0. -10 less a FAILURE.");
        tell(x, "a by n out 1", 10, 5);
        x.row(0, 0, 0, 0);
        is("goes(0), n is 0", x.goes(0, 1, 4, 1), 0);
        is("goes(1)", x.goes(1, 0, 1, 0), 1);
        is("goes(1), by 0", x.goes(1, 0, 0, 0), -11);
        is("goes(1), no such place", x.goes(1, 0, 1, 1), -12);
        is("goes(1), no such place", x.goes(1, 0, 1, -1), -12);
        is("goes(2), what is behind out does not matter", x.goes(2, 3, 0, 0), 3);
        is("count(5)", x.count(5), 0);
        is("count(1)", x.count(1), 5);
        in("11: BAD: it is not there.");
        for (int rule : new int[] {LEAST_INT, -1, 3, 7, 8, GREATEST_INT}) {
            is("goes(" + rule + ")", x.goes(rule, 0, 0, 0), BAD);
        }
        x.apply(0, 60);
        x.alike(true);
        x.row(0, 0, 10, 0);
        is("rules(6, 2, 2)", x.rules(6, 2, 2), 0);
        is("goes(2), off but there", x.goes(2, 3, 0, 0), 3);
        x.drop(2, 10);
        is("goes(2), dropped", x.goes(2, 3, 0, 0), BAD);
        tell(x, "c by 2 out 1", 10, 8);
        is("goes(2), told anew", x.goes(2, 3, 0, 0), 2);
    }

    private static void promise12() {
        in("12: A ROW comes to the TASK that goes() tells: its number. As goes(), row().");
        RuleBroadcast x = with("a by v out k", "b by 1/v out 1");
        x.tasks(3);
        for (int task = 0; task < 3; task++) {
            x.apply(task, 1);
            is("send(0, .. " + (task - 3) + ")", x.send(0, 40 + task, 10, task - 3), task);
            is("count(2" + task + ")", x.count(20 + task), 1);
            is("out(" + task + ", 0)", x.out(task, 0), 40 + task);
        }
        is("send(1) with a failure", x.send(1, 0, 10, 0), -11);
        for (int rule : new int[] {LEAST_INT, -1, 2, 8, GREATEST_INT}) {
            is("send(" + rule + ")", x.send(rule, 0, 10, 0), BAD);
        }
        is("count(4)", x.count(4), 3);
        is("count(5)", x.count(5), 0);
        x.asOf(true);
        for (int i = 1; i <= 6; i++) {
            is("send() " + i + " that waits there", x.send(0, i, 10, 2), 2);
            is("count(32)", x.count(32), i);
        }
        is("send() 7", x.send(0, 7, 10, 2), FULL);
        is("send() that need not wait", x.send(0, 7, 9, 2), 2);
        is("send() to another task", x.send(0, 7, 10, 1), 1);
        is("send(1) with a failure", x.send(1, 0, 10, 0), -11);
        x.drop(0, 10);
        is("send(), what would wait as the seventh, of a rule that is not there", x.send(0, 7, 10, 2), BAD);
        is("count(32)", x.count(32), 6);
        is("count(3)", x.count(3), 0);
        RuleBroadcast y = with("a by v out 1/v");
        y.apply(0, 1);
        is("send() whose row fails there", y.send(0, 0, 10, 0), 0);
        is("count(5)", y.count(5), 1);
    }

    private static void promise13() {
        in("13: A TASK APPLIES up to n (0 .. 60) CHANGES, as many as there are: how many. BAD.");
        RuleBroadcast x = new RuleBroadcast();
        fill(x, "a out 1", 10, 60);
        x.tasks(2);
        for (int n : new int[] {LEAST_INT, -1, 61, 62, GREATEST_INT}) {
            is("apply(0, " + n + ")", x.apply(0, n), BAD);
        }
        for (int task : new int[] {LEAST_INT, -1, 2, 6, GREATEST_INT}) {
            is("apply(" + task + ", 1)", x.apply(task, 1), BAD);
        }
        is("count(10)", x.count(10), 0);
        is("apply(0, 0)", x.apply(0, 0), 0);
        is("apply(0, 1)", x.apply(0, 1), 1);
        is("apply(0, 57)", x.apply(0, 57), 57);
        is("apply(0, 3), there are two", x.apply(0, 3), 2);
        is("apply(0, 60), there is none", x.apply(0, 60), 0);
        is("count(10)", x.count(10), 60);
        is("apply(1, 60)", x.apply(1, 60), 60);
        is("apply(1, 61)", x.apply(1, 61), BAD);
        in("13: (also those that come by this)");
        for (int n = 1; n <= 4; n++) {
            RuleBroadcast y = with("a out 1/v", "b out 1/v");
            y.alike(true);
            y.asOf(true);
            y.row(0, 0, 10, 0);
            is("apply(0, " + n + ")", y.apply(0, n), n);
            is("count(10)", y.count(10), n);
            is("count(1)", y.count(1), n == 1 ? 2 : 4);
        }
        RuleBroadcast z = with("a out 1/v", "b out 1/v");
        z.alike(true);
        z.asOf(true);
        z.row(0, 0, 10, 0);
        is("apply(0, 60)", z.apply(0, 60), 4);
        is("apply(0, 60)", z.apply(0, 60), 0);
    }

    private static void promise14And15() {
        in("14: What came OUT at a TASK, i = 0 the latest. 0: no such (kept no more). 15: NONE: no such. BAD: ..");
        RuleBroadcast x = with("a out 1,2,3", "b out 4");
        x.tasks(2);
        x.apply(0, 60);
        is("out(0, 0) of none", x.out(0, 0), 0);
        is("from(0, 0) of none", x.from(0, 0), NONE);
        for (int rows = 1; rows <= 11; rows++) {
            x.row(0, 0, 0, 0);
            int kept = Math.min(40, 4 * rows);
            is("count(40)", x.count(40), kept);
            is("out(0, 0)", x.out(0, 0), 4);
            is("from(0, 0)", x.from(0, 0), 1);
            is("out(0, 1)", x.out(0, 1), 3);
            is("from(0, 1)", x.from(0, 1), 0);
            is("out(0, " + (kept - 1) + ")", x.out(0, kept - 1), 1);
            is("from(0, " + (kept - 1) + ")", x.from(0, kept - 1), 0);
            for (int i : new int[] {LEAST_INT, -40, -1, kept, kept + 1, 40, 41, GREATEST_INT}) {
                is("out(0, " + i + ")", x.out(0, i), 0);
                is("from(0, " + i + ")", x.from(0, i), NONE);
            }
        }
        is("out(1, 0), nothing came at the other", x.out(1, 0), 0);
        is("from(1, 0)", x.from(1, 0), NONE);
        for (int task : new int[] {LEAST_INT, -1, 2, 6, GREATEST_INT}) {
            is("out(" + task + ", 0)", x.out(task, 0), 0);
            is("from(" + task + ", 0)", x.from(task, 0), BAD);
            is("from(" + task + ", 40), both", x.from(task, 40), BAD);
        }
    }

    private static void promise16() {
        in("16: The VERSION of a TIME, as told in 3.");
        RuleBroadcast x = new RuleBroadcast();
        for (long time : new long[] {MIN, 0, MAX}) {
            is("at(" + time + ") of none", x.at(time), 0);
        }
        x.mark();
        tell(x, "a out 1", 4, 1);
        tell(x, "a out 1", 4, 2);
        tell(x, "a out 1", 6, 3);
        x.drop(0, 7);
        x.restore(0);
        long[] times = {MIN, 3, 4, 5, 6, 7, 8, MAX};
        int[] due = {0, 0, 2, 2, 3, 5, 5, 5};
        for (int i = 0; i < times.length; i++) {
            is("at(" + times[i] + ")", x.at(times[i]), due[i]);
        }
        fill(x, "a out 1", 9, 60);
        is("at(8)", x.at(8), 5);
        is("at(9)", x.at(9), 60);
        is("at(MAX)", x.at(MAX), 60);
    }

    private static void promise17() {
        in("17: 0 whether it is there (1, 0), 1 its TEXT (NONE), 2 whether it is there and ON.");
        RuleBroadcast x = with("a out 1/v", "b out 1");
        x.alike(true);
        x.apply(0, 60);
        x.row(0, 0, 10, 0);
        x.drop(0, 10);
        int[][] due = {{0, NONE, 0}, {1, 1, 1}, {1, 1, 1}, {1, 1, 0}, {0, NONE, 0}};
        for (int version = 0; version <= 4; version++) {
            for (int what = 0; what <= 2; what++) {
                is("rules(" + version + ", 0, " + what + ")", x.rules(version, 0, what), due[version][what]);
            }
        }
        in("17: BAD: no such VERSION, RULE (one that was ever TOLD), what.");
        for (int wrong : new int[] {LEAST_INT, -1, 5, 60, 61, GREATEST_INT}) {
            is("rules(" + wrong + ", 0, 0)", x.rules(wrong, 0, 0), BAD);
        }
        for (int wrong : new int[] {LEAST_INT, -1, 2, 7, 8, GREATEST_INT}) {
            is("rules(4, " + wrong + ", 0)", x.rules(4, wrong, 0), BAD);
            is("rules(0, " + wrong + ", 1)", x.rules(0, wrong, 1), BAD);
        }
        for (int wrong : new int[] {LEAST_INT, -1, 3, GREATEST_INT}) {
            is("rules(4, 1, " + wrong + ")", x.rules(4, 1, wrong), BAD);
            is("rules(0, 0, " + wrong + ")", x.rules(0, 0, wrong), BAD);
        }
        is("rules(0, 1, 0), told later", x.rules(0, 1, 0), 0);
        fill(x, "a out 1", 10, 60);
        is("rules(60, 0, 1)", x.rules(60, 0, 1), 60);
        is("rules(61, 0, 1)", x.rules(61, 0, 1), BAD);
    }

    private static void promise18() {
        in("18: Whether a RULE is OFF at a TASK, as the VERSION that it has APPLIED has it, or by its own OFFS");
        RuleBroadcast x = with("a out 1/v", "b out 1");
        x.tasks(3);
        x.apply(0, 2);
        x.apply(1, 2);
        is("off(0, 0)", x.off(0, 0), 0);
        x.alike(true);
        x.row(0, 0, 10, 0);
        is("off(0, 0), by its own", x.off(0, 0), 1);
        is("off(1, 0), by neither", x.off(1, 0), 0);
        x.apply(1, 1);
        is("off(1, 0), by the version", x.off(1, 0), 1);
        x.apply(0, 1);
        is("off(0, 0), by both", x.off(0, 0), 1);
        is("off(0, 1), by neither", x.off(0, 1), 0);
        in("18: BAD: no TASK, it is not there in that VERSION.");
        is("off(2, 0), not applied", x.off(2, 0), BAD);
        x.apply(2, 1);
        is("off(2, 0)", x.off(2, 0), 0);
        is("off(2, 1), not applied", x.off(2, 1), BAD);
        x.drop(0, 10);
        is("off(0, 0), not yet dropped here", x.off(0, 0), 1);
        x.apply(0, 1);
        is("off(0, 0), dropped here", x.off(0, 0), BAD);
        for (int task : new int[] {LEAST_INT, -1, 3, 6, GREATEST_INT}) {
            is("off(" + task + ", 1)", x.off(task, 1), BAD);
        }
        for (int rule : new int[] {LEAST_INT, -1, 2, 7, 8, GREATEST_INT}) {
            is("off(1, " + rule + ")", x.off(1, rule), BAD);
        }
    }

    private static void promise19() {
        in("19: Of CHANGE n: 0 its kind (1 .. 4), 1 the RULE (of BACK NONE), 2 the VERSION of BACK (else NONE). BAD.");
        RuleBroadcast x = new RuleBroadcast();
        is("change(0, 0)", x.change(0, 0), BAD);
        is("change(1, 0)", x.change(1, 0), BAD);
        tell(x, "a out 1", 10, 1);
        tell(x, "b out 1/v", 10, 2);
        x.mark();
        x.alike(true);
        x.apply(0, 60);
        x.row(0, 0, 10, 0);
        x.drop(1, 10);
        x.restore(0);
        int[][] due = {{1, 0, NONE}, {1, 1, NONE}, {3, 1, NONE}, {2, 1, NONE}, {4, NONE, 2}};
        for (int n = 1; n <= 5; n++) {
            for (int what = 0; what <= 2; what++) {
                is("change(" + n + ", " + what + ")", x.change(n, what), due[n - 1][what]);
            }
            for (int what : new int[] {LEAST_INT, -1, 3, GREATEST_INT}) {
                is("change(" + n + ", " + what + ")", x.change(n, what), BAD);
            }
        }
        for (int n : new int[] {LEAST_INT, -1, 0, 6, 60, 61, GREATEST_INT}) {
            for (int what = 0; what <= 2; what++) {
                is("change(" + n + ", " + what + ")", x.change(n, what), BAD);
            }
        }
        fill(x, "a out 1", 10, 60);
        is("change(60, 0)", x.change(60, 0), 1);
        is("change(61, 0)", x.change(61, 0), BAD);
    }

    private static void promise20() {
        in("20: The TIME of CHANGE n. 0: no such.");
        RuleBroadcast x = new RuleBroadcast();
        is("when(1)", x.when(1), 0);
        tell(x, "a out 1", MIN, 1);
        tell(x, "a out 1", -1, 2);
        fill(x, "a out 1", 8, 59);
        fill(x, "a out 1", MAX, 60);
        is("when(1)", x.when(1), MIN);
        is("when(2)", x.when(2), -1);
        is("when(3)", x.when(3), 8);
        is("when(59)", x.when(59), 8);
        is("when(60)", x.when(60), MAX);
        for (int n : new int[] {LEAST_INT, -1, 0, 61, GREATEST_INT}) {
            is("when(" + n + ")", x.when(n), 0);
        }
        x.clear();
        is("when(1) behind clear()", x.when(1), 0);
    }

    private static void promise21() {
        in("21: A TASK's latest FAILURE: 0 its number (0: it had none), 1 the RULE, 2 the TEXT (NONE both). BAD.");
        RuleBroadcast x = with("b out 1", "a out 1/v");
        x.tasks(2);
        x.apply(0, 60);
        int[] none = {0, NONE, NONE};
        int[] due = {1, 1, 2};
        for (int what = 0; what <= 2; what++) {
            is("failed(0, " + what + ")", x.failed(0, what), none[what]);
        }
        x.tries(1, 0, 0, 0);
        is("failed(0, 0), tries() is none", x.failed(0, 0), 0);
        x.row(0, 0, 0, 0);
        for (int what = 0; what <= 2; what++) {
            is("failed(0, " + what + ")", x.failed(0, what), due[what]);
            is("failed(1, " + what + ")", x.failed(1, what), none[what]);
        }
        for (int what : new int[] {LEAST_INT, -1, 3, GREATEST_INT}) {
            is("failed(0, " + what + ")", x.failed(0, what), BAD);
            is("failed(1, " + what + ")", x.failed(1, what), BAD);
        }
        for (int task : new int[] {LEAST_INT, -1, 2, 6, GREATEST_INT}) {
            is("failed(" + task + ", 0)", x.failed(task, 0), BAD);
        }
        x.mark();
        x.restore(0);
        is("failed(0, 0) behind restore()", x.failed(0, 0), 1);
        x.drop(1, 10);
        x.apply(0, 60);
        is("failed(0, 2) behind its drop", x.failed(0, 2), 2);
    }

    private static void promise22() {
        in("22: A RULE's TEXT in THE LATEST VERSION (also OFF) is tried on a ROW, n being 0: how many SUMS would come");
        RuleBroadcast x = with("a if v#9 out 1/v,pick(k:1),t,v", "b if n=0 out 1", "c out 1");
        x.apply(0, 60);
        is("tries(0) of four", x.tries(0, 0, 0, 1), 4);
        is("tries(0) of none", x.tries(0, 0, 0, 9), 0);
        is("tries(0), 1", x.tries(0, 0, 0, 0), -11);
        is("tries(0), 2", x.tries(0, 1, 0, 1), -12);
        is("tries(0), the first of both", x.tries(0, 1, 0, 0), -11);
        x.row(0, 0, 0, 1);
        is("tries(1), n is 0", x.tries(1, 0, 0, 0), 1);
        x.row(0, 0, 0, 0);
        is("tries(0), off at the task", x.tries(0, 0, 0, 1), 4);
        RuleBroadcast y = with("a out 1/v");
        y.alike(true);
        y.apply(0, 60);
        y.row(0, 0, 10, 0);
        is("rules(2, 0, 2)", y.rules(2, 0, 2), 0);
        is("tries(0), off in the latest version", y.tries(0, 0, 0, 1), 1);
        is("tries(0), it fails again", y.tries(0, 0, 0, 0), -11);
        is("count(5), which is none of the task's", y.count(5), 1);
        is("count(1)", y.count(1), 2);
        in("22: BAD: it is not there.");
        for (int rule : new int[] {LEAST_INT, -1, 3, 7, 8, GREATEST_INT}) {
            is("tries(" + rule + ")", x.tries(rule, 0, 0, 0), BAD);
        }
        x.drop(2, 10);
        is("tries(2), though the task has it", x.tries(2, 0, 0, 0), BAD);
        is("tries(1)", x.tries(1, 0, 0, 0), 1);
    }

    private static void promise23() {
        in("23: A MARK more: its number, 0 .. 3. FULL.");
        RuleBroadcast x = new RuleBroadcast();
        for (int i = 0; i < 4; i++) {
            is("mark()", x.mark(), i);
        }
        is("mark()", x.mark(), FULL);
        is("mark()", x.mark(), FULL);
        is("count(6)", x.count(6), 4);
        is("count(1), a mark is no change", x.count(1), 0);
    }

    private static void promise24() {
        in("24: a CHANGE 4, of the TIME of the one before (0: there is none)");
        RuleBroadcast x = new RuleBroadcast();
        x.mark();
        is("restore(0)", x.restore(0), 1);
        is("when(1)", x.when(1), 0);
        is("change(1, 0)", x.change(1, 0), 4);
        is("change(1, 2)", x.change(1, 2), 0);
        tell(x, "a out 1", 7, 2);
        is("restore(0)", x.restore(0), 3);
        is("when(3)", x.when(3), 7);
        for (long time : new long[] {MIN, -1, MAX}) {
            RuleBroadcast y = new RuleBroadcast();
            y.mark();
            tell(y, "a out 1", time, 1);
            is("restore(0)", y.restore(0), 2);
            is("when(2)", y.when(2), time);
        }
        offsThatTheyHadThen();
        rowsAreLost();
        in("24: BAD; FULL: 60 CHANGES.");
        RuleBroadcast z = new RuleBroadcast();
        is("restore(0) of none", z.restore(0), BAD);
        z.mark();
        z.mark();
        for (int mark : new int[] {LEAST_INT, -1, 2, 3, 4, GREATEST_INT}) {
            is("restore(" + mark + ")", z.restore(mark), BAD);
        }
        fill(z, "a out 1", 5, 59);
        is("restore(1) as the 60th", z.restore(1), 60);
        is("restore(1)", z.restore(1), FULL);
        is("restore(2), both", z.restore(2), BAD);
        is("restore(-1), both", z.restore(-1), BAD);
    }

    private static void offsThatTheyHadThen() {
        in("24: TASKS have the OFFS that they had then (those that there were not: none)");
        RuleBroadcast x = with("a out 1/v", "b out 1/v");
        x.tasks(3);
        for (int task = 0; task < 3; task++) {
            x.apply(task, 1);
        }
        x.row(1, 0, 10, 0);
        x.row(2, 0, 10, 0);
        x.tasks(2);
        x.mark();
        x.apply(0, 60);
        x.row(0, 0, 10, 0);
        x.tasks(4);
        x.apply(1, 60);
        is("off(2, 0), as task 0", x.off(2, 0), 1);
        is("restore(0)", x.restore(0), 3);
        // Task 2 was there ahead of the mark, and had it off; task 3 was never there.
        int[] due = {0, 1, 0, 0};
        for (int task = 0; task < 4; task++) {
            is("off(" + task + ", 0)", x.off(task, 0), due[task]);
            is("off(" + task + ", 1)", x.off(task, 1), 0);
            is("count(1" + task + "), what is applied stays", x.count(10 + task), 2);
        }
        is("count(0)", x.count(0), 4);
        is("apply(0, 60)", x.apply(0, 60), 1);
        x.tasks(1);
        is("restore(0), fewer tasks than then", x.restore(0), 4);
        is("off(0, 0)", x.off(0, 0), 0);
        x.tasks(2);
        is("off(1, 0), a new one has them as task 0", x.off(1, 0), 0);
        RuleBroadcast y = with("a out 1/v");
        y.apply(0, 1);
        y.row(0, 0, 10, 0);
        y.mark();
        y.tasks(2);
        is("off(1, 0)", y.off(1, 0), 1);
        is("restore(0)", y.restore(0), 2);
        is("off(0, 0), as it had it then", y.off(0, 0), 1);
        is("off(1, 0), it was not there: none, and not as task 0", y.off(1, 0), 0);
    }

    private static void rowsAreLost() {
        in("24: ROWS that WAIT are LOST. THE LATEST VERSION then.");
        RuleBroadcast x = with("a out k");
        x.tasks(3);
        x.asOf(true);
        x.mark();
        is("restore(0), none waits", x.restore(0), 2);
        is("count(3)", x.count(3), 0);
        tell(x, "a out k", 20, 3);
        x.row(0, 1, 20, 0);
        for (int i = 0; i < 6; i++) {
            x.row(2, i, 20, 0);
        }
        is("restore(0)", x.restore(0), 4);
        is("count(3)", x.count(3), 7);
        for (int task = 0; task < 3; task++) {
            is("count(3" + task + ")", x.count(30 + task), 0);
            is("apply(" + task + ", 60)", x.apply(task, 60), 4);
            is("count(2" + task + ")", x.count(20 + task), 0);
        }
        is("row(), there is room again", x.row(2, 1, 20, 0), 1);
        tell(x, "a out k", 30, 5);
        x.row(1, 1, 30, 0);
        is("restore(0)", x.restore(0), 6);
        is("count(3)", x.count(3), 8);
        is("count(4)", x.count(4), 1);
    }

    private static void promise25() {
        in("25: Whether two TASKS hold, by what they APPLIED, the same RULES with the same TEXTS");
        RuleBroadcast x = with("a out 1/v", "b out 1");
        x.tasks(2);
        is("same(0, 1) of nothing", x.same(0, 1), 1);
        x.mark();
        x.apply(0, 1);
        bothWays(x, 0);
        x.apply(1, 1);
        bothWays(x, 1);
        x.apply(0, 1);
        bothWays(x, 0);
        x.drop(1, 10);
        x.apply(0, 1);
        // Task 0 has applied three changes and task 1 one, but they hold the same.
        bothWays(x, 1);
        tell(x, "a out 1/v", 10, 4);
        x.apply(0, 1);
        bothWays(x, 0);
        x.restore(0);
        x.apply(0, 1);
        x.apply(1, 1);
        bothWays(x, 1);
        in("25: and the same of these are OFF at both: 1, 0.");
        x.row(0, 0, 10, 0);
        bothWays(x, 0);
        x.alike(true);
        x.row(1, 0, 10, 0);
        is("change(6, 0)", x.change(6, 0), 3);
        bothWays(x, 1);
        RuleBroadcast y = with("a out 1/v", "b out pick(k:1)");
        y.tasks(2);
        y.apply(0, 60);
        y.apply(1, 60);
        y.row(0, 0, 10, 0);
        y.row(1, 1, 10, 1);
        is("same(0, 1), one is off at each, another one", y.same(0, 1), 0);
        y.drop(0, 10);
        y.drop(1, 10);
        y.apply(0, 60);
        y.apply(1, 60);
        is("same(0, 1), offs of rules that are not there", y.same(0, 1), 1);
        in("25: BAD.");
        for (int task : new int[] {LEAST_INT, -1, 2, 6, GREATEST_INT}) {
            is("same(0, " + task + ")", x.same(0, task), BAD);
            is("same(" + task + ", 1)", x.same(task, 1), BAD);
            is("same(" + task + ", " + task + ")", x.same(task, task), BAD);
        }
        is("same(1, 1)", x.same(1, 1), 1);
    }

    private static void bothWays(RuleBroadcast x, int want) {
        is("same(0, 1)", x.same(0, 1), want);
        is("same(1, 0)", x.same(1, 0), want);
    }

    private static void promise26() {
        in("26: 0 TASKS; 1 CHANGES; 2 RULES that were ever TOLD; 3 ROWS that were LOST; 4 that were JUDGED, ..");
        RuleBroadcast x = with("a out 1/v", "b out 1/v", "c out 1,2");
        x.tasks(4);
        x.apply(1, 60);
        x.row(1, 0, 0, 0);
        x.row(1, 0, 0, 0);
        x.drop(2, 20);
        x.asOf(true);
        x.row(0, 0, 20, 0);
        x.row(3, 0, 20, 0);
        x.row(3, 0, 20, 0);
        x.row(2, 0, 9, 0);
        x.mark();
        x.mark();
        int[] due = {
            4, 4, 3, 0, 3, 2, 2, BAD, BAD, BAD,
            0, 3, 0, 0, BAD, BAD, BAD, BAD, BAD, BAD,
            0, 2, 1, 0, BAD, BAD, BAD, BAD, BAD, BAD,
            1, 0, 0, 2, BAD, BAD, BAD, BAD, BAD, BAD,
            0, 4, 0, 0, BAD, BAD, BAD, BAD, BAD, BAD, BAD};
        for (int what = 0; what < due.length; what++) {
            is("count(" + what + ")", x.count(what), due[what]);
        }
        for (int what : new int[] {LEAST_INT, -11, -10, -1, 51, 60, 70, 100, 110, 210, 1010, GREATEST_INT}) {
            is("count(" + what + ")", x.count(what), BAD);
        }
        is("restore(0)", x.restore(0), 5);
        is("count(3)", x.count(3), 3);
        is("count(1)", x.count(1), 5);
        in("26: of all TASKS that ever were");
        x.tasks(1);
        is("count(0)", x.count(0), 1);
        is("count(4)", x.count(4), 3);
        is("count(5)", x.count(5), 2);
        x.tasks(2);
        is("count(21), of the new one", x.count(21), 0);
        is("count(41)", x.count(41), 0);
        is("count(4)", x.count(4), 3);
        in("26: of TASK x: 10 + x what it APPLIED, .. 40 + x how many of what came OUT are kept. BAD.");
        for (int n = 1; n <= 6; n++) {
            x.tasks(n);
            for (int ten = 10; ten <= 40; ten += 10) {
                is("count(" + (ten + n - 1) + ") of " + n, Math.min(0, x.count(ten + n - 1)), 0);
                is("count(" + (ten + n) + ") of " + n, x.count(ten + n), BAD);
            }
        }
    }

    private static void promise27() {
        in("27: All is as at the beginning: how many CHANGES there were.");
        RuleBroadcast x = new RuleBroadcast();
        is("clear() of none", x.clear(), 0);
        fill(x, "a out 1", 5, 60);
        is("clear() of 60", x.clear(), 60);
        is("clear() again", x.clear(), 0);
        namesAreNumberedAnew();
        tell(x, "b out 1/v", MIN, 1);
        is("change(1, 1), its number is 0", x.change(1, 1), 0);
        x.mark();
        x.alike(true);
        x.asOf(true);
        x.tasks(6);
        x.apply(0, 1);
        x.row(0, 0, 0, 0);
        x.row(5, 0, 0, 0);
        x.restore(0);
        tell(x, "!", 0, -10);
        Due.feed(x, "b out 1");
        is("clear() of 3", x.clear(), 3);
        is("keep(1), no bytes", x.keep(1), BAD);
        int[] due = {1, 0, 0, 0, 0, 0, 0};
        for (int what = 0; what <= 6; what++) {
            is("count(" + what + ")", x.count(what), due[what]);
        }
        for (int what = 10; what <= 40; what += 10) {
            is("count(" + what + ")", x.count(what), 0);
            is("count(" + (what + 1) + ")", x.count(what + 1), BAD);
        }
        is("fault()", x.fault(), 0);
        is("failed(0, 0)", x.failed(0, 0), 0);
        is("failed(0, 1)", x.failed(0, 1), NONE);
        is("failed(0, 2)", x.failed(0, 2), NONE);
        is("restore(0), no marks", x.restore(0), BAD);
        is("mark()", x.mark(), 0);
        is("at(MAX)", x.at(MAX), 0);
        is("rules(0, 0, 0)", x.rules(0, 0, 0), BAD);
        tell(x, "c out 1/v", MIN, 1);
        is("rules(1, 1, 0)", x.rules(1, 1, 0), BAD);
        is("row() does not wait", x.row(0, 0, MIN, 0), 0);
        x.apply(0, 1);
        is("off(0, 0), no offs", x.off(0, 0), 0);
        is("row() that fails", x.row(0, 0, MIN, 0), 0);
        is("count(1), not alike", x.count(1), 1);
        is("alike(false)", x.alike(false), 0);
        is("asOf(false)", x.asOf(false), 0);
        x.tasks(6);
        is("count(35)", x.count(35), 0);
        is("restore(0), of a mark of now", x.restore(0), 2);
        is("off(0, 0)", x.off(0, 0), 0);
    }

    private static void namesAreNumberedAnew() {
        RuleBroadcast x = new RuleBroadcast();
        String names = "abcdefgh";
        for (int i = 0; i < 8; i++) {
            tell(x, names.charAt(i) + " out 1", 5, i + 1);
        }
        is("clear() of 8 names", x.clear(), 8);
        // The same names in another order, and as the first one that which was first before.
        String again = "ahgfedcb";
        for (int i = 0; i < 8; i++) {
            tell(x, again.charAt(i) + " out 1", 5, i + 1);
            is("change(" + (i + 1) + ", 1) of " + again.charAt(i), x.change(i + 1, 1), i);
            is("count(2)", x.count(2), i + 1);
        }
        x.clear();
        tell(x, "h out 1", 5, 1);
        is("change(1, 1) of h", x.change(1, 1), 0);
        tell(x, "z out 1", 5, 2);
        is("change(2, 1) of a new name", x.change(2, 1), 1);
        tell(x, "h out 1", 5, 3);
        is("change(3, 1) of h", x.change(3, 1), 0);
        is("count(2)", x.count(2), 2);
    }
}
