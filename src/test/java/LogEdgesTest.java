/** The document's Terms of THE LOG and its VERSIONS: each sentence that names a boundary, on both sides of it. */
public final class LogEdgesTest extends Checks {
    private LogEdgesTest() {
    }

    public static void main(String[] args) {
        sixtyByRule();
        sixtyByDrop();
        sixtyByRestore();
        sixtyByAlike();
        timesOfRules();
        timesOfDrops();
        timesAtTheirEnds();
        inPlaceOfTheOneOfThatName();
        numbersByNames();
        versionZero();
        versionsOfTheFirst();
        onAsItIsTold();
        behindBack();
        backBehindBack();
        theLatest();
        Due.end();
    }

    private static void sixtyByRule() {
        in("CHANGES 1, 2, .. (60 at most): by rule()");
        RuleBroadcast x = new RuleBroadcast();
        fill(x, "a out 1", 5, 59);
        is("count(1)", x.count(1), 59);
        is("change(59, 0)", x.change(59, 0), 1);
        is("change(60, 0)", x.change(60, 0), BAD);
        tell(x, "a out 60", 6, 60);
        is("change(60, 0)", x.change(60, 0), 1);
        is("rules(60, 0, 1)", x.rules(60, 0, 1), 60);
        tell(x, "a out 61", 6, FULL);
        is("count(1)", x.count(1), 60);
        is("change(61, 0)", x.change(61, 0), BAD);
        is("when(61)", x.when(61), 0);
        is("rules(61, 0, 0)", x.rules(61, 0, 0), BAD);
        is("apply(0, 60)", x.apply(0, 60), 60);
        is("row() by the 60th", x.row(0, 0, 0, 0), 1);
        cameOut(x, 0, 60);
    }

    private static void sixtyByDrop() {
        in("CHANGES 1, 2, .. (60 at most): by drop()");
        RuleBroadcast x = new RuleBroadcast();
        tell(x, "b out 1", 5, 1);
        fill(x, "a out 1", 5, 59);
        is("drop(0, 5) as the 60th", x.drop(0, 5), 60);
        is("change(60, 0)", x.change(60, 0), 2);
        is("rules(60, 0, 0)", x.rules(60, 0, 0), 0);
        is("drop(1, 5) as the 61st", x.drop(1, 5), FULL);
        is("rules(60, 1, 0)", x.rules(60, 1, 0), 1);
        is("count(1)", x.count(1), 60);
    }

    private static void sixtyByRestore() {
        in("CHANGES 1, 2, .. (60 at most): by restore()");
        RuleBroadcast x = new RuleBroadcast();
        x.mark();
        fill(x, "a out 1", 5, 59);
        is("restore(0) as the 60th", x.restore(0), 60);
        is("change(60, 0)", x.change(60, 0), 4);
        is("rules(60, 0, 0)", x.rules(60, 0, 0), 0);
        is("restore(0) as the 61st", x.restore(0), FULL);
        is("count(1)", x.count(1), 60);
    }

    private static void sixtyByAlike() {
        in("and THE LOG has room, also a CHANGE 3");
        RuleBroadcast x = new RuleBroadcast();
        tell(x, "a out 1/v", 5, 1);
        tell(x, "b out 1/v", 5, 2);
        fill(x, "c out 1", 5, 59);
        x.alike(true);
        x.apply(0, 60);
        is("row() by which two fail", x.row(0, 0, 0, 0), 1);
        is("count(1), the first has its change", x.count(1), 60);
        is("change(60, 0)", x.change(60, 0), 3);
        is("change(60, 1)", x.change(60, 1), 0);
        is("rules(60, 0, 2)", x.rules(60, 0, 2), 0);
        is("rules(60, 1, 2), the second has none", x.rules(60, 1, 2), 1);
        is("off(0, 1), but it is off at the task", x.off(0, 1), 1);
        is("count(5), and failed", x.count(5), 2);
        is("failed(0, 1)", x.failed(0, 1), 1);
        is("apply(0, 60)", x.apply(0, 60), 1);
    }

    private static void timesOfRules() {
        in("each with a TIME, which is not below that of the one before: by rule()");
        for (long time : new long[] {0, -1, 1, 1L << 32, -(1L << 32)}) {
            RuleBroadcast x = new RuleBroadcast();
            tell(x, "a out 1", time, 1);
            tell(x, "a out 2", time - 1, BAD);
            is("keep(0)", x.keep(0), 7);
            tell(x, "a out 2", time, 2);
            tell(x, "a out 3", time + 1, 3);
            tell(x, "a out 4", time, BAD);
            is("count(1)", x.count(1), 3);
            is("when(2)", x.when(2), time);
            is("when(3)", x.when(3), time + 1);
        }
    }

    private static void timesOfDrops() {
        in("each with a TIME, which is not below that of the one before: by drop()");
        RuleBroadcast x = new RuleBroadcast();
        tell(x, "a out 1", -7, 1);
        tell(x, "b out 1", -7, 2);
        is("drop(0, -8)", x.drop(0, -8), BAD);
        is("drop(0, -7)", x.drop(0, -7), 3);
        is("drop(1, -6)", x.drop(1, -6), 4);
        is("when(3)", x.when(3), -7);
        is("when(4)", x.when(4), -6);
        tell(x, "a out 1", -7, BAD);
        tell(x, "a out 1", -6, 5);
    }

    private static void timesAtTheirEnds() {
        in("each with a TIME, which is not below that of the one before: at the ends");
        RuleBroadcast x = new RuleBroadcast();
        tell(x, "a out 1", MIN, 1);
        tell(x, "a out 1", MIN, 2);
        tell(x, "a out 1", MIN + 1, 3);
        tell(x, "a out 1", MIN, BAD);
        x.keep(0);
        tell(x, "a out 1", MAX - 1, 4);
        tell(x, "a out 1", MAX, 5);
        tell(x, "a out 1", MAX, 6);
        tell(x, "a out 1", MAX - 1, BAD);
        is("drop(0, MAX - 1)", x.drop(0, MAX - 1), BAD);
        is("drop(0, MAX)", x.drop(0, MAX), 7);
        is("when(1)", x.when(1), MIN);
        is("when(7)", x.when(7), MAX);
        RuleBroadcast y = new RuleBroadcast();
        y.mark();
        is("restore(0)", y.restore(0), 1);
        tell(y, "a out 1", -1, BAD);
        tell(y, "a out 1", 0, 2);
    }

    private static void inPlaceOfTheOneOfThatName() {
        in("1 a RULE is TOLD, by its NAME in place of the one of that NAME");
        RuleBroadcast x = with("a out 1", "b out 2");
        tell(x, "a out 3,4", 10, 3);
        is("count(2)", x.count(2), 2);
        is("rules(2, 0, 1)", x.rules(2, 0, 1), 1);
        is("rules(3, 0, 1)", x.rules(3, 0, 1), 3);
        is("rules(3, 1, 1)", x.rules(3, 1, 1), 2);
        x.apply(0, 3);
        is("row()", x.row(0, 0, 0, 0), 3);
        cameOut(x, 0, 2, 4, 3);
        is("from(0, 0)", x.from(0, 0), 1);
        is("from(0, 1)", x.from(0, 1), 0);
    }

    private static void numbersByNames() {
        in("RULES are numbered 0 .. 7 by NAMES, as these were TOLD first.");
        String names = "hgfedcba";
        RuleBroadcast x = new RuleBroadcast();
        tell(x, "z out", 10, -15);
        for (int i = 0; i < 8; i++) {
            is("rules(" + i + ", " + i + ", 0)", x.rules(i, i, 0), BAD);
            tell(x, names.charAt(i) + " out 1", 10, i + 1);
            is("change(" + (i + 1) + ", 1)", x.change(i + 1, 1), i);
            is("count(2)", x.count(2), i + 1);
            is("rules(" + (i + 1) + ", " + i + ", 1)", x.rules(i + 1, i, 1), i + 1);
        }
        is("rules(8, 8, 0)", x.rules(8, 8, 0), BAD);
        is("drop(2, 10)", x.drop(2, 10), 9);
        tell(x, "f out 1", 10, 10);
        is("change(10, 1), told again", x.change(10, 1), 2);
        tell(x, "a out 1", 10, 11);
        is("change(11, 1)", x.change(11, 1), 7);
        x.apply(0, 60);
        is("row()", x.row(0, 0, 0, 0), 8);
        for (int i = 0; i < 8; i++) {
            is("from(0, " + i + "), they are judged by numbers", x.from(0, i), 7 - i);
        }
    }

    private static void versionZero() {
        in("VERSION n is what the first n CHANGES make (0: nothing)");
        RuleBroadcast x = new RuleBroadcast();
        is("rules(0, 0, 0) of none that was told", x.rules(0, 0, 0), BAD);
        is("rules(1, 0, 0)", x.rules(1, 0, 0), BAD);
        tell(x, "a out 1", 10, 1);
        is("rules(0, 0, 0)", x.rules(0, 0, 0), 0);
        is("rules(0, 0, 1)", x.rules(0, 0, 1), NONE);
        is("rules(0, 0, 2)", x.rules(0, 0, 2), 0);
        is("row() by version 0", x.row(0, 0, 10, 0), 0);
        is("off(0, 0) by version 0", x.off(0, 0), BAD);
    }

    private static void versionsOfTheFirst() {
        in("of each RULE whether it is there, its TEXT (the number of the CHANGE by which it was TOLD)");
        RuleBroadcast x = with("a out 1", "b out 1", "a out 2");
        x.drop(0, 10);
        tell(x, "b out 3", 10, 5);
        tell(x, "a out 4", 10, 6);
        int[] there = {0, 1, 1, 1, 0, 0, 1};
        int[] texts = {NONE, 1, 1, 3, NONE, NONE, 6};
        int[] otherTexts = {NONE, NONE, 2, 2, 2, 5, 5};
        for (int n = 0; n <= 6; n++) {
            is("rules(" + n + ", 0, 0)", x.rules(n, 0, 0), there[n]);
            is("rules(" + n + ", 0, 1)", x.rules(n, 0, 1), texts[n]);
            is("rules(" + n + ", 1, 1)", x.rules(n, 1, 1), otherTexts[n]);
        }
        is("rules(7, 0, 0)", x.rules(7, 0, 0), BAD);
    }

    private static void onAsItIsTold() {
        in("whether it is ON (it is as it is TOLD)");
        RuleBroadcast x = with("a out 1/v");
        x.alike(true);
        x.apply(0, 1);
        x.row(0, 0, 10, 0);
        is("rules(1, 0, 2)", x.rules(1, 0, 2), 1);
        is("rules(2, 0, 2), off", x.rules(2, 0, 2), 0);
        is("rules(2, 0, 0), but there", x.rules(2, 0, 0), 1);
        is("rules(2, 0, 1)", x.rules(2, 0, 1), 1);
        tell(x, "a out 1/v", 10, 3);
        is("rules(3, 0, 2), told anew", x.rules(3, 0, 2), 1);
        is("rules(2, 0, 2)", x.rules(2, 0, 2), 0);
        x.apply(0, 60);
        x.row(0, 0, 10, 0);
        is("rules(4, 0, 2), off again", x.rules(4, 0, 2), 0);
        is("drop(0, 10) of one that is off", x.drop(0, 10), 5);
        is("rules(5, 0, 2)", x.rules(5, 0, 2), 0);
        is("rules(5, 0, 1)", x.rules(5, 0, 1), NONE);
        tell(x, "a out 1/v", 10, 6);
        is("rules(6, 0, 2), told behind a drop", x.rules(6, 0, 2), 1);
    }

    private static void behindBack() {
        in("Behind BACK all of it is as in that VERSION.");
        RuleBroadcast x = with("a out 1/v", "b out 2", "c out 3");
        x.alike(true);
        x.apply(0, 60);
        is("mark() of all on", x.mark(), 0);
        x.row(0, 0, 10, 0);
        is("mark() of one off", x.mark(), 1);
        x.drop(1, 10);
        tell(x, "c out 4", 10, 6);
        tell(x, "d out 5", 10, 7);
        is("mark() of others", x.mark(), 2);
        is("restore(0)", x.restore(0), 8);
        rulesAre(x, 8, new int[] {1, 2, 3, NONE}, new int[] {1, 1, 1, 0});
        is("restore(1)", x.restore(1), 9);
        rulesAre(x, 9, new int[] {1, 2, 3, NONE}, new int[] {0, 1, 1, 0});
        is("restore(2)", x.restore(2), 10);
        rulesAre(x, 10, new int[] {1, NONE, 6, 7}, new int[] {0, 0, 1, 1});
        rulesAre(x, 7, new int[] {1, NONE, 6, 7}, new int[] {0, 0, 1, 1});
        rulesAre(x, 3, new int[] {1, 2, 3, NONE}, new int[] {1, 1, 1, 0});
    }

    private static void rulesAre(RuleBroadcast x, int version, int[] texts, int[] ons) {
        for (int rule = 0; rule < texts.length; rule++) {
            String call = "rules(" + version + ", " + rule + ", ";
            is(call + "0)", x.rules(version, rule, 0), texts[rule] == NONE ? 0 : 1);
            is(call + "1)", x.rules(version, rule, 1), texts[rule]);
            is(call + "2)", x.rules(version, rule, 2), ons[rule]);
        }
    }

    private static void backBehindBack() {
        in("4 all is BACK at a VERSION: one that is behind a BACK itself, and 0");
        RuleBroadcast x = new RuleBroadcast();
        is("mark() of nothing", x.mark(), 0);
        tell(x, "a out 1", 10, 1);
        is("mark() of 1", x.mark(), 1);
        is("restore(0)", x.restore(0), 2);
        rulesAre(x, 2, new int[] {NONE}, new int[] {0});
        is("mark() of 2", x.mark(), 2);
        is("restore(1)", x.restore(1), 3);
        rulesAre(x, 3, new int[] {1}, new int[] {1});
        is("mark() of 3", x.mark(), 3);
        tell(x, "a out 2", 10, 4);
        is("restore(3)", x.restore(3), 5);
        rulesAre(x, 5, new int[] {1}, new int[] {1});
        is("change(5, 2)", x.change(5, 2), 3);
        is("restore(2)", x.restore(2), 6);
        rulesAre(x, 6, new int[] {NONE}, new int[] {0});
        is("change(6, 2)", x.change(6, 2), 2);
        is("restore(0)", x.restore(0), 7);
        is("change(7, 2)", x.change(7, 2), 0);
    }

    private static void theLatest() {
        in("THE LATEST one is that of all CHANGES.");
        RuleBroadcast x = with("a out 1", "b by 1 out 1");
        x.tasks(2);
        is("tries() of what no task has applied", x.tries(0, 0, 0, 0), 1);
        is("goes() of what no task has applied", x.goes(1, 0, 0, 0), 1);
        x.apply(0, 60);
        tell(x, "a out 1,2,3", 10, 3);
        is("tries() of the latest", x.tries(0, 0, 0, 0), 3);
        is("row() by what is applied", x.row(0, 0, 0, 0), 2);
        x.drop(1, 10);
        is("goes() of what all have but the latest", x.goes(1, 0, 0, 0), BAD);
        is("drop() of what all have but the latest", x.drop(1, 10), BAD);
        is("rules(4, 1, 0)", x.rules(4, 1, 0), 0);
    }
}
