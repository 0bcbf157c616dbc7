/** What the tests of calls have in common. */
abstract class Checks {
    static final int BAD = RuleBroadcast.BAD;
    static final int FULL = RuleBroadcast.FULL;
    static final int WAITS = RuleBroadcast.WAITS;
    static final int NONE = RuleBroadcast.NONE;
    static final long MIN = Long.MIN_VALUE;
    static final long MAX = Long.MAX_VALUE;
    static final int LEAST_INT = Integer.MIN_VALUE;
    static final int GREATEST_INT = Integer.MAX_VALUE;

    /** The answers below are due by these words of the document. */
    static void in(String words) {
        Due.in(words);
    }

    static void is(String call, long got, long want) {
        Due.is(call, got, want);
    }

    /** An object to which texts were told, all of them at 10. */
    static RuleBroadcast with(String... texts) {
        RuleBroadcast x = new RuleBroadcast();
        for (String text : texts) {
            Due.isTrue("tells " + text, Due.tell(x, text, 10) > 0);
        }
        return x;
    }

    static void tell(RuleBroadcast x, String text, long time, int want) {
        Due.is("telling " + text.replace('\n', '~') + " at " + time, Due.tell(x, text, time), want);
    }

    /** Tells a text again and again, in two calls each time, until there are so many changes. */
    static void fill(RuleBroadcast x, String text, long time, int changes) {
        for (int n = x.count(1) + 1; n <= changes; n++) {
            Due.feed(x, text);
            Due.is("telling " + text + " at " + time, x.rule(time), n);
        }
    }

    static void faulty(String text, int place, int kind) {
        RuleBroadcast x = new RuleBroadcast();
        tell(x, text, 0, -10 - place);
        Due.is("fault() of " + text, x.fault(), kind);
        Due.is("count(1) behind " + text, x.count(1), 0);
        Due.is("count(2) behind " + text, x.count(2), 0);
    }

    static void sound(String text) {
        RuleBroadcast x = new RuleBroadcast();
        tell(x, text, 0, 1);
        Due.is("fault() of " + text, x.fault(), 0);
    }

    /** What a sum is for k = 7, t = 3, v = -5 and as the task's third row. */
    static void sum(String sum, long want) {
        RuleBroadcast x = with("a out " + sum);
        x.row(0, 0, 0, 0);
        x.row(0, 0, 0, 0);
        x.apply(0, 60);
        Due.is("row() by " + sum, x.row(0, 7, 3, -5), 1);
        Due.is("out() by " + sum, x.out(0, 0), want);
    }

    /** What a sum is for k and v, as the task's first row. */
    static void sumOf(String sum, long k, long v, long want) {
        RuleBroadcast x = with("a out " + sum);
        x.apply(0, 60);
        Due.is("row() by " + sum, x.row(0, k, 0, v), 1);
        Due.is("out() by " + sum + " of " + k + " and " + v, x.out(0, 0), want);
    }

    /** What tries() answers of a rule for k = 7, t = 3, v = 0. */
    static void tried(String rule, int want) {
        triedOn(rule, 7, 0, want);
    }

    static void triedOn(String rule, long k, long v, int want) {
        Due.is("tries() of " + rule + " on " + k + " and " + v, with(rule).tries(0, k, 3, v), want);
    }

    /** What came out at a task, the latest first, and nothing more. */
    static void cameOut(RuleBroadcast x, int task, long... want) {
        Due.is("count(" + (40 + task) + ")", x.count(40 + task), want.length);
        for (int i = 0; i < want.length; i++) {
            Due.is("out(" + task + ", " + i + ")", x.out(task, i), want[i]);
        }
    }
}
