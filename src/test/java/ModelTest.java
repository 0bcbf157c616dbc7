import java.util.ArrayList;
import java.util.List;
import java.util.Random;

/** Mixed runs of calls, the same ones each time, answered as Model answers them. */
public final class ModelTest {
    private static final int RUNS = 4000;
    private static final int CALLS = 512;
    private static final int TEXTS = 60000;
    private static final long[] EDGES = {Long.MIN_VALUE, Long.MIN_VALUE + 1, Long.MAX_VALUE, Long.MAX_VALUE - 1};
    private static final String[] WORDS = {
        "a", "b", "by", "if", "out", "or", "and", "not", "pick", "k", "t", "v", "n", "(", ")", "[", "]", "+", "-", "*",
        "/", "%", ",", ":", "<", "<=", ">", ">=", "=", "#", "0", "1", "999999999", "1234567890", "abcdefgh",
        "abcdefghi", "!", " ", "\n", "A", "\u00ff", "\0"};

    private final Random random;
    private final RuleBroadcast real = new RuleBroadcast();
    private final Model model = new Model();
    /** Many short texts fill the log, of many names. */
    private final boolean tellsMuch;
    private int calls = 0;

    private ModelTest(long seed) {
        random = new Random(seed);
        tellsMuch = seed % 4 == 0;
    }

    public static void main(String[] args) {
        for (int seed = 0; seed < RUNS; seed++) {
            Due.in("run " + seed);
            new ModelTest(seed).run();
        }
        Due.in("texts");
        texts();
        Due.end();
    }

    private void run() {
        if (random.nextInt(3) > 0) {
            asOf(true);
        }
        if (random.nextInt(3) > 0) {
            alike(true);
        }
        if (random.nextInt(3) > 0) {
            tasks(1 + random.nextInt(6));
        }
        while (calls < CALLS - 12) {
            act();
        }
    }

    private int below(int bound) {
        return random.nextInt(bound);
    }

    private long number() {
        return below(12) == 0 ? EDGES[below(EDGES.length)] : below(10) - 3;
    }

    private long time() {
        long now = model.when(model.count(1));
        int way = below(40);
        return way == 0 ? EDGES[below(2)] : way < 36 ? now + below(3) : now + below(7) - 4;
    }

    private int task() {
        return below(25) == 0 ? below(12) - 3 : below(model.count(0));
    }

    private int rule() {
        return below(25) == 0 ? below(14) - 3 : below(Math.max(1, model.count(2)));
    }

    private void act() {
        int way = below(100) - (tellsMuch ? 45 : 0);
        if (way < 12) {
            tell();
        } else if (way < 32) {
            row();
        } else if (way < 40) {
            send();
        } else if (way < 55) {
            apply();
        } else if (way < 75) {
            look();
        } else if (way < 90) {
            ask();
        } else if (way < 93) {
            drop();
        } else if (way < 95) {
            tasks(below(10) == 0 ? below(12) - 3 : 1 + below(6));
        } else if (way < 96) {
            due("mark()", real.mark(), model.mark());
        } else if (way < 97) {
            int mark = below(6) - 1;
            due("restore(" + mark + ")", real.restore(mark), model.restore(mark));
        } else if (way < 98) {
            alike(random.nextBoolean());
        } else if (way < 99) {
            asOf(random.nextBoolean());
        } else if (below(8) == 0) {
            due("clear()", real.clear(), model.clear());
        }
    }

    private void due(String call, long got, long want) {
        calls++;
        Due.is("call " + calls + " " + call, got, want);
    }

    private void asOf(boolean on) {
        due("asOf(" + on + ")", real.asOf(on), model.asOf(on));
    }

    private void alike(boolean on) {
        due("alike(" + on + ")", real.alike(on), model.alike(on));
    }

    private void tasks(int n) {
        due("tasks(" + n + ")", real.tasks(n), model.tasks(n));
    }

    private void tell() {
        String text = tellsMuch ? shortText(random) : ruleText(random);
        if (below(6) == 0) {
            text = spoilt(random, text);
        }
        int length = Math.min(200, text.length());
        for (int start = 0; start < length; start += 20) {
            int[] five = new int[5];
            for (int i = 0; i < 20; i++) {
                char c = start + i < text.length() ? text.charAt(start + i) : ' ';
                five[i / 4] = five[i / 4] << 8 | c;
            }
            due("feed", real.feed(five[0], five[1], five[2], five[3], five[4]), model.feed(five));
        }
        if (below(3) == 0) {
            int kept = below(9) == 0 ? below(240) - 20 : length;
            due("keep(" + kept + ")", real.keep(kept), model.keep(kept));
        }
        long time = time();
        int version = model.rule(time);
        due("rule(" + time + ") of " + text, real.rule(time), version);
        due("fault()", real.fault(), model.fault());
    }

    private void row() {
        int task = task();
        long k = number();
        long t = time();
        long v = number();
        due("row(" + task + ", " + k + ", " + t + ", " + v + ")", real.row(task, k, t, v), model.row(task, k, t, v));
    }

    private void send() {
        int rule = rule();
        long k = number();
        long t = time();
        long v = number();
        due("send(" + rule + ", " + k + ", " + t + ", " + v + ")", real.send(rule, k, t, v), model.send(rule, k, t, v));
    }

    private void apply() {
        int task = task();
        int n = below(15) == 0 ? below(70) - 5 : below(4);
        due("apply(" + task + ", " + n + ")", real.apply(task, n), model.apply(task, n));
    }

    private void drop() {
        int rule = rule();
        long time = time();
        due("drop(" + rule + ", " + time + ")", real.drop(rule, time), model.drop(rule, time));
    }

    private void look() {
        int task = task();
        int i = below(10) == 0 ? below(46) - 3 : below(8);
        due("out(" + task + ", " + i + ")", real.out(task, i), model.out(task, i));
        due("from(" + task + ", " + i + ")", real.from(task, i), model.from(task, i));
        int what = below(5) * 10 + task;
        due("count(" + what + ")", real.count(what), model.count(what));
        what = below(9) - 1;
        due("count(" + what + ")", real.count(what), model.count(what));
    }

    private void ask() {
        int task = task();
        int rule = rule();
        int what = below(20) == 0 ? below(6) - 2 : below(3);
        int n = below(1 + model.count(1)) + (below(20) == 0 ? below(5) - 2 : 0);
        long k = number();
        long t = time();
        long v = number();
        String row = ", " + k + ", " + t + ", " + v + ")";
        switch (below(9)) {
            case 0 -> due("goes(" + rule + row, real.goes(rule, k, t, v), model.goes(rule, k, t, v));
            case 1 -> due("tries(" + rule + row, real.tries(rule, k, t, v), model.tries(rule, k, t, v));
            case 2 -> due("rules(" + n + ", " + rule + ", " + what + ")",
                    real.rules(n, rule, what), model.rules(n, rule, what));
            case 3 -> due("off(" + task + ", " + rule + ")", real.off(task, rule), model.off(task, rule));
            case 4 -> due("change(" + n + ", " + what + ")", real.change(n, what), model.change(n, what));
            case 5 -> due("when(" + n + ")", real.when(n), model.when(n));
            case 6 -> due("failed(" + task + ", " + what + ")", real.failed(task, what), model.failed(task, what));
            case 7 -> due("at(" + t + ")", real.at(t), model.at(t));
            default -> {
                int other = task();
                due("same(" + task + ", " + other + ")", real.same(task, other), model.same(task, other));
            }
        }
    }

    /** Texts alone, sound ones, spoilt ones, and rows of tokens as they fall. */
    private static void texts() {
        Random random = new Random(7);
        RuleBroadcast real = new RuleBroadcast();
        for (int i = 0; i < TEXTS; i++) {
            int way = random.nextInt(4);
            String text = way == 0 ? soup(random) : ruleText(random);
            for (int times = way; times > 1; times--) {
                text = spoilt(random, text);
            }
            text = text.substring(0, Math.min(200, text.length()));
            ModelText told = new ModelText(text, List.of());
            int version = Due.tell(real, text, 0);
            Due.is("rule() of " + text, version, told.fault == 0 ? 1 : -10 - told.place);
            Due.is("fault() of " + text, real.fault(), told.fault);
            for (int j = 0; j < 4 && version == 1; j++) {
                long k = random.nextInt(7) - 2;
                long v = random.nextInt(7) - 2;
                long t = j == 0 ? EDGES[random.nextInt(EDGES.length)] : j;
                ModelText.Answer judged = told.judges(k, t, v, 0);
                Due.is("tries() of " + text, real.tries(0, k, t, v),
                        judged.failure() != 0 ? -10 - judged.failure() : judged.values().size());
                ModelText.Answer sent = told.goes(k, t, v);
                Due.is("goes() of " + text, real.goes(0, k, t, v), sent.failure() != 0 ? -10 - sent.failure() : 0);
                if (judged.failure() == 0) {
                    valuesCameOut(real, text, judged.values(), k, t, v);
                }
            }
            real = new RuleBroadcast();
        }
    }

    private static void valuesCameOut(RuleBroadcast real, String text, List<Long> values, long k, long t, long v) {
        // A new task for each row: n is 0 there, and nothing is off.
        real.apply(0, 60);
        real.tasks(2);
        Due.is("row() by " + text, real.row(1, k, t, v), values.size());
        for (int i = 0; i < values.size(); i++) {
            Due.is("out() by " + text, real.out(1, values.size() - 1 - i), values.get(i));
        }
        real.tasks(1);
    }

    private static String soup(Random random) {
        StringBuilder text = new StringBuilder(random.nextBoolean() ? "a out " : "a if ");
        for (int i = random.nextInt(60); i > 0; i--) {
            text.append(WORDS[random.nextInt(WORDS.length - 6)]).append(random.nextBoolean() ? " " : "");
        }
        return text.toString();
    }

    private static String spoilt(Random random, String text) {
        List<String> words = new ArrayList<>(List.of(text.split("(?<=[^a-z0-9])|(?=[^a-z0-9])")));
        int where = random.nextInt(words.size());
        switch (random.nextInt(4)) {
            case 0 -> words.remove(where);
            case 1 -> words.add(where, WORDS[random.nextInt(WORDS.length)]);
            case 2 -> words.set(where, WORDS[random.nextInt(WORDS.length)]);
            default -> {
                String opening = new String[] {"-", "(", "pick(1:", "not ", "["}[random.nextInt(5)];
                words.add(where, opening.repeat(random.nextInt(14)));
            }
        }
        return String.join("", words);
    }

    private static String shortText(Random random) {
        return "abcdefghi".charAt(random.nextInt(9)) + " out " + sum(random, 1);
    }

    private static String ruleText(Random random) {
        StringBuilder text = new StringBuilder();
        do {
            text.setLength(0);
            text.append("abcdefghi".charAt(random.nextInt(random.nextInt(30) == 0 ? 9 : 6)));
            if (random.nextInt(3) == 0) {
                text.append(" by ").append(sum(random, 2));
            }
            if (random.nextInt(2) == 0) {
                text.append(" if ").append(test(random, 3));
            }
            text.append(" out ").append(sum(random, 2));
            for (int i = random.nextInt(4); i > 0; i--) {
                text.append(random.nextBoolean() ? ", " : ",").append(sum(random, 1));
            }
        } while (text.length() > 200);
        return text.toString();
    }

    private static String test(Random random, int depth) {
        switch (depth == 0 ? 0 : random.nextInt(6)) {
            case 1:
                return "not " + test(random, depth - 1);
            case 2:
                return "[" + test(random, depth - 1) + "]";
            case 3:
                return test(random, depth - 1) + " or " + test(random, depth - 1);
            case 4:
                return test(random, depth - 1) + " and " + test(random, depth - 1);
            default:
                return sum(random, 1) + new String[] {"<", "<=", ">", ">=", "=", "#"}[random.nextInt(6)]
                        + sum(random, 1);
        }
    }

    private static String sum(Random random, int depth) {
        switch (depth == 0 ? random.nextInt(2) : random.nextInt(8)) {
            case 0:
                return String.valueOf(random.nextInt(5));
            case 1, 2:
                return String.valueOf("kkttvvvn".charAt(random.nextInt(8)));
            case 3:
                return "-" + sum(random, depth - 1);
            case 4:
                return "(" + sum(random, depth - 1) + ")";
            case 5:
                StringBuilder pick = new StringBuilder("pick(" + sum(random, depth - 1) + ":");
                for (int i = random.nextInt(6); i > 0; i--) {
                    pick.append(sum(random, depth - 1)).append(',');
                }
                return pick + sum(random, depth - 1) + ")";
            default:
                return sum(random, depth - 1) + "+-*/%//".charAt(random.nextInt(7)) + sum(random, depth - 1);
        }
    }
}
