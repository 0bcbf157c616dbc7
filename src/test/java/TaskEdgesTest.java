/** The document's Terms of TASKS, ROWS and MARKS: each sentence that names a boundary, on both sides of it. */
public final class TaskEdgesTest extends Checks {
    private TaskEdgesTest() {
    }

    public static void main(String[] args) {
        atFirst();
        appliedAreTheFirst();
        sixThatWait();
        versionIsWhatWasApplied();
        versionOfItsTime();
        versionAsItComes();
        waitsOrIsJudged();
        thereAndOn();
        offsAreTexts();
        offsOfAllTexts();
        testHolds();
        fortyAreKept();
        fortyOfEachTask();
        byIsNotLookedAt();
        nothingOfThisRule();
        latestFailure();
        changeThreeWithAlike();
        changeThreeOfTheLatest();
        timeOfChangeThree();
        failsWhileJudged();
        oneChangeMore();
        asTheyCame();
        changesByRowsThatWaited();
        fourMarks();
        marksAsTheyWere();
        Due.end();
    }

    private static void atFirst() {
        in("TASKS 0 .. (1 at first) have APPLIED so many CHANGES (0 at first)");
        RuleBroadcast x = with("a out 1");
        is("count(0)", x.count(0), 1);
        is("count(10)", x.count(10), 0);
        is("count(11)", x.count(11), BAD);
        is("row(0)", x.row(0, 0, 0, 0), 0);
        is("row(1)", x.row(1, 0, 0, 0), BAD);
    }

    private static void appliedAreTheFirst() {
        in("have APPLIED so many CHANGES, the first ones");
        RuleBroadcast x = with("a out 1", "b out 1", "c out 1");
        int[] due = {0, 1, 2, 3};
        for (int n = 0; n <= 3; n++) {
            is("count(10)", x.count(10), n);
            is("row()", x.row(0, 0, 0, 0), due[n]);
            is("off(0, 0)", x.off(0, 0), n >= 1 ? 0 : BAD);
            is("off(0, 2)", x.off(0, 2), n >= 3 ? 0 : BAD);
            is("apply(0, 1)", x.apply(0, 1), n < 3 ? 1 : 0);
        }
    }

    private static void sixThatWait() {
        in("hold ROWS that WAIT, 6 at most.");
        RuleBroadcast x = with("a out k");
        x.tasks(2);
        x.asOf(true);
        for (int i = 1; i <= 6; i++) {
            is("row() " + i, x.row(0, i, 10, 0), WAITS);
            is("count(30)", x.count(30), i);
        }
        is("row() 7", x.row(0, 7, 10, 0), FULL);
        is("count(30)", x.count(30), 6);
        is("row() of the other task", x.row(1, 8, 10, 0), WAITS);
        is("apply(0, 1)", x.apply(0, 1), 1);
        cameOut(x, 0, 6, 5, 4, 3, 2, 1);
        is("count(30)", x.count(30), 0);
        tell(x, "b out 1", 20, 2);
        is("row(), there is room again", x.row(0, 7, 20, 0), WAITS);
    }

    private static void versionIsWhatWasApplied() {
        in("A ROW that comes to a TASK has a VERSION: what that has APPLIED");
        RuleBroadcast x = with("a out 1", "b out 1");
        is("row() of MIN", x.row(0, 0, MIN, 0), 0);
        is("row() of MAX", x.row(0, 0, MAX, 0), 0);
        x.apply(0, 1);
        is("row() of MIN", x.row(0, 0, MIN, 0), 1);
        is("row() of MAX", x.row(0, 0, MAX, 0), 1);
        is("count(30), none waits", x.count(30), 0);
    }

    private static void versionOfItsTime() {
        in("but with AS OF that of its TIME t: how many CHANGES have a TIME not above t");
        RuleBroadcast x = new RuleBroadcast();
        tell(x, "a out 1", -5, 1);
        tell(x, "b out 1", 10, 2);
        tell(x, "c out 1", 10, 3);
        tell(x, "d out 1", 11, 4);
        x.apply(0, 60);
        x.asOf(true);
        long[] times = {MIN, -6, -5, -4, 9, 10, 11, 12, MAX};
        int[] due = {0, 0, 1, 1, 1, 3, 4, 4, 4};
        for (int i = 0; i < times.length; i++) {
            is("row() of " + times[i], x.row(0, 0, times[i], 0), due[i]);
            is("at(" + times[i] + ")", x.at(times[i]), due[i]);
        }
        RuleBroadcast y = new RuleBroadcast();
        tell(y, "a out 1", MIN, 1);
        tell(y, "b out 1", MAX, 2);
        y.apply(0, 60);
        y.asOf(true);
        is("row() of MIN", y.row(0, 0, MIN, 0), 1);
        is("row() of MAX - 1", y.row(0, 0, MAX - 1, 0), 1);
        is("row() of MAX", y.row(0, 0, MAX, 0), 2);
    }

    private static void versionAsItComes() {
        in("how many CHANGES have a TIME not above t, as it comes.");
        RuleBroadcast x = with("a out 1");
        x.asOf(true);
        is("row() of version 1", x.row(0, 0, 10, 0), WAITS);
        tell(x, "a out 1,2", 10, 2);
        is("row() of version 2", x.row(0, 0, 10, 0), WAITS);
        tell(x, "a out 1,2,3", 10, 3);
        x.apply(0, 1);
        is("count(30)", x.count(30), 1);
        is("count(40), by version 1", x.count(40), 1);
        x.apply(0, 1);
        is("count(30)", x.count(30), 0);
        is("count(40), by version 2", x.count(40), 3);
        x.apply(0, 1);
        is("count(40)", x.count(40), 3);
        is("row() of version 3", x.row(0, 0, 10, 0), 3);
    }

    private static void waitsOrIsJudged() {
        in("If the TASK has not APPLIED so many, it WAITS; else it is JUDGED, by that VERSION.");
        RuleBroadcast x = new RuleBroadcast();
        tell(x, "a out 1", 10, 1);
        tell(x, "b out 1", 20, 2);
        tell(x, "c out 1", 30, 3);
        x.asOf(true);
        is("row() of version 0 with 0", x.row(0, 0, 9, 0), 0);
        is("row() of version 1 with 0", x.row(0, 0, 10, 0), WAITS);
        x.apply(0, 1);
        is("row() of version 0 with 1", x.row(0, 0, 9, 0), 0);
        is("row() of version 1 with 1", x.row(0, 0, 10, 0), 1);
        is("row() of version 2 with 1", x.row(0, 0, 20, 0), WAITS);
        is("row() of version 3 with 1", x.row(0, 0, 30, 0), WAITS);
        x.apply(0, 1);
        is("row() of version 1 with 2", x.row(0, 0, 19, 0), 1);
        is("row() of version 2 with 2", x.row(0, 0, 20, 0), 2);
        is("row() of version 3 with 2", x.row(0, 0, 30, 0), WAITS);
    }

    private static void thereAndOn() {
        in("JUDGED: RULES by numbers, of those that are there and ON in its VERSION");
        RuleBroadcast x = with("b out 1", "a out 2/v", "c out 3");
        x.tasks(2);
        x.apply(0, 60);
        x.alike(true);
        x.row(0, 0, 20, 0);
        x.drop(0, 30);
        is("apply(1, 3)", x.apply(1, 3), 3);
        is("row() by all three", x.row(1, 0, 0, 1), 3);
        cameOut(x, 1, 3, 2, 1);
        x.apply(1, 1);
        is("row() without what is off", x.row(1, 0, 0, 1), 2);
        x.apply(1, 1);
        is("row() without what was dropped", x.row(1, 0, 0, 1), 1);
        x.asOf(true);
        is("row() as of 10", x.row(1, 0, 10, 1), 3);
        is("row() as of 19", x.row(1, 0, 19, 1), 3);
        is("row() as of 20", x.row(1, 0, 20, 1), 2);
        is("row() as of 30", x.row(1, 0, 30, 1), 1);
        is("row() as of 10 where its own offs have it", x.row(0, 0, 10, 1), 2);
    }

    private static void offsAreTexts() {
        in("and whose TEXT is none of the TASK's OFFS");
        RuleBroadcast x = with("a out 1/v");
        x.tasks(2);
        x.apply(0, 60);
        x.apply(1, 60);
        is("mark()", x.mark(), 0);
        is("row() that fails", x.row(0, 0, 10, 0), 0);
        is("row()", x.row(0, 0, 10, 1), 0);
        is("row() at the other task", x.row(1, 0, 10, 1), 1);
        tell(x, "a out 1/v", 20, 2);
        is("row() until the new text is applied", x.row(0, 0, 10, 1), 0);
        x.apply(0, 60);
        is("row() by the new text", x.row(0, 0, 10, 1), 1);
        x.asOf(true);
        is("row() as of the old text", x.row(0, 0, 10, 1), 0);
        is("row() as of the new text", x.row(0, 0, 20, 1), 1);
        RuleBroadcast y = with("a out 1/v");
        y.apply(0, 60);
        y.row(0, 0, 10, 0);
        y.mark();
        tell(y, "a out 7", 10, 2);
        y.restore(0);
        y.apply(0, 2);
        is("row() by the old text behind a back, which the mark has off", y.row(0, 0, 10, 1), 0);
        is("off(0, 0)", y.off(0, 0), 1);
    }

    private static void offsOfAllTexts() {
        in("have OFFS of their own (TEXTS): from the first to the 60th, and none by another");
        // The texts 28 and 60 (and 59) are those of the three rules.
        int[] texts = {59, 28, 60};
        for (int failing = 0; failing < 3; failing++) {
            RuleBroadcast x = new RuleBroadcast();
            fill(x, "a out 1/k", 10, 27);
            fill(x, "b out 1/t", 10, 28);
            fill(x, "a out 1/k", 10, 59);
            fill(x, "c out 1/v", 10, 60);
            x.apply(0, 60);
            long[] row = {1, 1, 1};
            row[failing] = 0;
            is("row() by which one fails", x.row(0, row[0], row[1], row[2]), 2);
            for (int rule = 0; rule < 3; rule++) {
                is("off(0, " + rule + ") of text " + texts[rule], x.off(0, rule), rule == failing ? 1 : 0);
            }
            is("failed(0, 2)", x.failed(0, 2), texts[failing]);
            is("row()", x.row(0, 1, 1, 1), 2);
            x.asOf(true);
            is("row() that waits for none", x.row(0, 1, 10, 1), 2);
        }
        RuleBroadcast y = new RuleBroadcast();
        fill(y, "a out 1/v", 10, 60);
        for (int n = 1; n <= 60; n++) {
            y.apply(0, 1);
            is("off(0, 0) of text " + n, y.off(0, 0), 0);
            y.row(0, 0, 10, 0);
            is("off(0, 0) of text " + n, y.off(0, 0), 1);
        }
        is("count(5)", y.count(5), 60);
    }

    private static void testHolds() {
        in("if its TEST holds (or it has none) its SUMS come OUT at the TASK");
        RuleBroadcast x = with("a if v>0 out k,k", "b out 5");
        x.apply(0, 60);
        is("row() whose test does not hold", x.row(0, 1, 0, 0), 1);
        is("row() whose test holds", x.row(0, 2, 0, 1), 3);
        cameOut(x, 0, 5, 2, 2, 5);
    }

    private static void fortyAreKept() {
        in("(of each the latest 40 are kept, with the RULE)");
        RuleBroadcast x = with("a out k", "b if v=1 out 0-k,0-k-1,0-k-2");
        x.apply(0, 60);
        for (int k = 1; k <= 39; k++) {
            x.row(0, k, 0, 0);
        }
        is("count(40)", x.count(40), 39);
        is("out(0, 38)", x.out(0, 38), 1);
        is("out(0, 39)", x.out(0, 39), 0);
        is("from(0, 39)", x.from(0, 39), NONE);
        x.row(0, 40, 0, 0);
        is("count(40)", x.count(40), 40);
        is("out(0, 39)", x.out(0, 39), 1);
        is("from(0, 39)", x.from(0, 39), 0);
        is("out(0, 40)", x.out(0, 40), 0);
        is("from(0, 40)", x.from(0, 40), NONE);
        is("out(0, -1)", x.out(0, -1), 0);
        is("from(0, -1)", x.from(0, -1), NONE);
        x.row(0, 41, 0, 0);
        is("count(40)", x.count(40), 40);
        is("out(0, 0)", x.out(0, 0), 41);
        is("out(0, 39)", x.out(0, 39), 2);
        is("out(0, 40)", x.out(0, 40), 0);
        is("row() of four", x.row(0, 50, 0, 1), 4);
        long[] due = {-52, -51, -50, 50, 41, 40};
        int[] rules = {1, 1, 1, 0, 0, 0};
        for (int i = 0; i < due.length; i++) {
            is("out(0, " + i + ")", x.out(0, i), due[i]);
            is("from(0, " + i + ")", x.from(0, i), rules[i]);
        }
        is("out(0, 39)", x.out(0, 39), 6);
        is("count(40)", x.count(40), 40);
    }

    private static void fortyOfEachTask() {
        in("come OUT at the TASK (of each the latest 40 are kept)");
        RuleBroadcast x = with("a out k,k,k,k");
        x.apply(0, 60);
        x.tasks(6);
        for (int i = 0; i < 11; i++) {
            for (int task = 0; task < 6; task++) {
                x.row(task, 100 * task + i, 0, 0);
            }
        }
        for (int task = 0; task < 6; task++) {
            is("count(4" + task + ")", x.count(40 + task), 40);
            is("out(" + task + ", 0)", x.out(task, 0), 100 * task + 10);
            is("out(" + task + ", 39)", x.out(task, 39), 100 * task + 1);
            is("out(" + task + ", 40)", x.out(task, 40), 0);
        }
    }

    private static void byIsNotLookedAt() {
        in("What stands behind by is not looked at.");
        RuleBroadcast x = with("a by 1/0 if v=0 out 5", "b by pick(9:1) out 6");
        x.apply(0, 60);
        is("row()", x.row(0, 0, 0, 0), 2);
        is("count(5)", x.count(5), 0);
        is("off(0, 0)", x.off(0, 0), 0);
        is("tries(0)", x.tries(0, 0, 0, 0), 1);
    }

    private static void nothingOfThisRule() {
        in("With a FAILURE nothing of this RULE comes OUT of this ROW");
        RuleBroadcast x = with("a out 1", "b out 2,3,4,5/v", "c if 1/v=1 out 6", "d out 7");
        x.apply(0, 60);
        is("row() by which two fail", x.row(0, 0, 0, 0), 2);
        cameOut(x, 0, 7, 1);
        is("count(5)", x.count(5), 2);
        is("row() behind it", x.row(0, 0, 0, 1), 2);
        is("count(5)", x.count(5), 2);
    }

    private static void latestFailure() {
        in("that is the TASK's latest FAILURE, and the TEXT is one of its OFFS then");
        RuleBroadcast x = with("a out 1/v", "b out pick(v:1)", "a out 2/v");
        x.apply(0, 60);
        x.row(0, 0, 0, 1);
        failureIs(x, 0, 2, 1, 2);
        is("off(0, 0)", x.off(0, 0), 0);
        is("off(0, 1)", x.off(0, 1), 1);
        x.row(0, 0, 0, 0);
        failureIs(x, 0, 1, 0, 3);
        is("off(0, 0)", x.off(0, 0), 1);
        x.row(0, 0, 0, 0);
        failureIs(x, 0, 1, 0, 3);
        is("count(5), what is off does not fail", x.count(5), 2);
        RuleBroadcast y = with("a out 1/v", "b out pick(k:1)");
        y.apply(0, 60);
        y.row(0, 1, 0, 0);
        failureIs(y, 0, 2, 1, 2);
        is("count(5)", y.count(5), 2);
    }

    private static void failureIs(RuleBroadcast x, int task, int number, int rule, int text) {
        is("failed(" + task + ", 0)", x.failed(task, 0), number);
        is("failed(" + task + ", 1)", x.failed(task, 1), rule);
        is("failed(" + task + ", 2)", x.failed(task, 2), text);
    }

    private static void changeThreeWithAlike() {
        in("with ALIKE .. also a CHANGE 3");
        RuleBroadcast x = with("a out 1/v", "b out 1/v");
        x.apply(0, 60);
        x.row(0, 0, 10, 1);
        is("count(1), nothing failed", x.count(1), 2);
        x.alike(true);
        x.row(0, 0, 10, 0);
        is("count(1), both have theirs", x.count(1), 4);
        is("change(3, 0)", x.change(3, 0), 3);
        is("change(3, 1)", x.change(3, 1), 0);
        is("change(4, 1)", x.change(4, 1), 1);
        is("change(3, 2)", x.change(3, 2), NONE);
        is("count(10), it is not applied by this", x.count(10), 2);
        RuleBroadcast y = with("a out 1/v");
        y.apply(0, 60);
        y.row(0, 0, 10, 0);
        is("count(1) without alike", y.count(1), 1);
        is("rules(1, 0, 2)", y.rules(1, 0, 2), 1);
        y.alike(true);
        y.row(0, 0, 10, 0);
        is("count(1), it is off already and does not fail", y.count(1), 1);
    }

    private static void changeThreeOfTheLatest() {
        in("and if in THE LATEST VERSION the RULE is there with this TEXT and ON");
        RuleBroadcast x = with("a out 1/v", "b out 1/v", "c out 1/v", "d out 1/v");
        x.tasks(3);
        for (int task = 0; task < 3; task++) {
            x.apply(task, 4);
        }
        x.alike(true);
        x.drop(0, 10);
        tell(x, "b out 1/v", 10, 6);
        x.row(0, 0, 10, 0);
        is("count(1), c and d have theirs", x.count(1), 8);
        is("change(7, 1)", x.change(7, 1), 2);
        is("change(8, 1)", x.change(8, 1), 3);
        is("count(5), all four failed", x.count(5), 4);
        is("off(0, 0), a is off at the task", x.off(0, 0), 1);
        is("off(0, 1), b is off at the task", x.off(0, 1), 1);
        is("rules(8, 1, 2), b is on in the latest version", x.rules(8, 1, 2), 1);
        x.row(1, 0, 10, 0);
        is("count(1), none again of what is off", x.count(1), 8);
        is("count(5)", x.count(5), 8);
        tell(x, "a out 1/v", 10, 9);
        x.row(2, 0, 10, 0);
        is("count(1), a is there with another text", x.count(1), 9);
        is("rules(9, 0, 2)", x.rules(9, 0, 2), 1);
        RuleBroadcast y = with("a out 1/v");
        y.alike(true);
        y.apply(0, 1);
        y.mark();
        tell(y, "a out 2", 10, 2);
        y.restore(0);
        y.row(0, 0, 10, 0);
        is("count(1), the text is there again behind a back", y.count(1), 4);
        is("change(4, 0)", y.change(4, 0), 3);
    }

    private static void timeOfChangeThree() {
        in("(its TIME: t, or that of the CHANGE before, if it is greater)");
        long[][] due = {{9, 10}, {10, 10}, {11, 11}, {MIN, 10}, {MAX, MAX}, {-1, 10}};
        for (long[] one : due) {
            RuleBroadcast x = with("a out 1/v");
            x.alike(true);
            x.apply(0, 1);
            x.row(0, 0, one[0], 0);
            is("when(2) of a row of " + one[0], x.when(2), one[1]);
            is("count(1)", x.count(1), 2);
        }
        RuleBroadcast y = new RuleBroadcast();
        tell(y, "a out 1/v", MIN, 1);
        tell(y, "b out 1/v", MIN, 2);
        y.alike(true);
        y.apply(0, 60);
        y.row(0, 0, -3, 0);
        is("when(3)", y.when(3), -3);
        is("when(4)", y.when(4), -3);
    }

    private static void failsWhileJudged() {
        in("JUDGED, by that VERSION: a CHANGE that comes meanwhile is not of it");
        RuleBroadcast x = with("a out 1/v", "b out 2", "c out 1/v");
        x.alike(true);
        x.asOf(true);
        x.apply(0, 60);
        is("row()", x.row(0, 0, 10, 0), 1);
        is("count(1)", x.count(1), 5);
        is("row() of the same time waits now", x.row(0, 0, 10, 0), WAITS);
        is("apply(0, 60)", x.apply(0, 60), 2);
        is("count(5)", x.count(5), 2);
    }

    private static void oneChangeMore() {
        in("A TASK that APPLIES one CHANGE more: then its ROWS that WAIT and whose VERSION is not above that");
        RuleBroadcast x = new RuleBroadcast();
        for (int i = 1; i <= 4; i++) {
            tell(x, "a out " + i + ",k", 10 * i, i);
        }
        x.asOf(true);
        for (int i = 4; i >= 1; i--) {
            is("row() of " + 10 * i, x.row(0, i, 10 * i, 0), WAITS);
        }
        for (int i = 1; i <= 4; i++) {
            x.apply(0, 1);
            is("count(30)", x.count(30), 4 - i);
            is("count(20)", x.count(20), i);
            is("out(0, 0)", x.out(0, 0), i);
            is("out(0, 1)", x.out(0, 1), i);
        }
    }

    private static void asTheyCame() {
        in("are JUDGED, as they came.");
        RuleBroadcast x = new RuleBroadcast();
        tell(x, "a out k", 10, 1);
        tell(x, "a out 0-k", 20, 2);
        x.asOf(true);
        long[] times = {20, 10, 20, 10, 20, 10};
        for (int i = 0; i < times.length; i++) {
            is("row() " + i, x.row(0, i + 1, times[i], 0), WAITS);
        }
        x.apply(0, 1);
        cameOut(x, 0, 6, 4, 2);
        x.apply(0, 1);
        cameOut(x, 0, -5, -3, -1, 6, 4, 2);
    }

    private static void changesByRowsThatWaited() {
        in("ROWS that WAIT .. are JUDGED, and a FAILURE of these may make a CHANGE");
        RuleBroadcast x = with("a out 1/v", "b out k");
        x.asOf(true);
        x.alike(true);
        x.row(0, 1, 10, 0);
        x.row(0, 2, 10, 0);
        is("apply(0, 1)", x.apply(0, 1), 1);
        is("count(1)", x.count(1), 2);
        is("apply(0, 1)", x.apply(0, 1), 1);
        is("count(1), the first row failed", x.count(1), 3);
        is("count(5), the second found it off", x.count(5), 1);
        cameOut(x, 0, 2, 1);
        is("count(10)", x.count(10), 2);
    }

    private static void fourMarks() {
        in("A MARK (4 at most)");
        RuleBroadcast x = with("a out 1");
        for (int i = 0; i < 4; i++) {
            is("restore(" + i + ")", x.restore(i), BAD);
            is("mark()", x.mark(), i);
            is("count(6)", x.count(6), i + 1);
        }
        is("mark()", x.mark(), FULL);
        is("count(6)", x.count(6), 4);
        is("restore(3)", x.restore(3), 2);
        is("restore(4)", x.restore(4), BAD);
        is("mark()", x.mark(), FULL);
        x.clear();
        is("mark()", x.mark(), 0);
    }

    private static void marksAsTheyWere() {
        in("A MARK has THE LATEST VERSION, and each TASK's OFFS, as they were.");
        RuleBroadcast x = with("a out 1/v", "b out pick(k:1)");
        x.tasks(2);
        x.apply(0, 60);
        x.apply(1, 60);
        x.row(0, 0, 0, 0);
        is("mark()", x.mark(), 0);
        x.row(0, 1, 0, 1);
        x.row(1, 1, 0, 0);
        tell(x, "c out 3", 10, 3);
        is("mark()", x.mark(), 1);
        offsAre(x, 1, 1, 1, 1);
        is("restore(0)", x.restore(0), 4);
        is("change(4, 2)", x.change(4, 2), 2);
        offsAre(x, 1, 0, 0, 0);
        is("restore(1)", x.restore(1), 5);
        is("change(5, 2)", x.change(5, 2), 3);
        offsAre(x, 1, 1, 1, 1);
        is("restore(0) again", x.restore(0), 6);
        offsAre(x, 1, 0, 0, 0);
    }

    private static void offsAre(RuleBroadcast x, int a, int b, int otherA, int otherB) {
        is("off(0, 0)", x.off(0, 0), a);
        is("off(0, 1)", x.off(0, 1), b);
        is("off(1, 0)", x.off(1, 0), otherA);
        is("off(1, 1)", x.off(1, 1), otherB);
    }
}
