import java.util.ArrayDeque;
import java.util.ArrayList;
import java.util.Deque;
import java.util.List;
import java.util.Set;
import java.util.TreeSet;
import java.util.regex.Matcher;
import java.util.regex.Pattern;

/**
 * A rule's text as the document tells it, read in a way of its own. Faults: each production of the grammar answers
 * all places where it may end, and the furthest place where a token was wanted in vain is where it cannot stand; what
 * is open is counted by a stack beside that. Values: they are worked out while the tokens are gone through again.
 */
final class ModelText {
    record Token(String word, int place) {
        boolean isWord() {
            return word.matches("[a-z]+");
        }
    }

    record Answer(int failure, List<Long> values) {
    }

    private static final class Failure extends RuntimeException {
        private static final long serialVersionUID = 1L;
        private final int number;

        Failure(int number) {
            this.number = number;
        }
    }

    private static final Set<String> KEY_WORDS =
            Set.of("by", "if", "out", "or", "and", "not", "pick", "k", "t", "v", "n");
    private static final Set<String> SIGNS = Set.of(
            "(", ")", "[", "]", "+", "-", "*", "/", "%", ",", ":", "<", "<=", ">", ">=", "=", "#");

    final int fault;
    final int place;
    private final List<Token> tokens = new ArrayList<>();
    private int furthest;
    private int cursor;
    private long k;
    private long t;
    private long v;
    private long n;

    ModelText(String text, List<String> names) {
        Matcher m = Pattern.compile("[a-z]+|[0-9]+|[<>]=|[^ \n]", Pattern.DOTALL).matcher(text);
        while (m.find()) {
            tokens.add(new Token(m.group(), m.start()));
        }
        tokens.add(new Token("", text.length()));
        rule();
        int[] faults = new int[tokens.size()];
        for (int i = 0; i < tokens.size(); i++) {
            Token token = tokens.get(i);
            if (i < tokens.size() - 1 && isNone(token.word)) {
                faults[i] = 1;
            } else if (i == furthest) {
                faults[i] = 2;
            }
        }
        int deep = firstTooDeep();
        if (deep < furthest && faults[deep] == 0) {
            faults[deep] = 3;
        }
        if (faults[0] == 0 && names.size() == 8 && !names.contains(tokens.get(0).word)) {
            faults[0] = 4;
        }
        int first = 0;
        while (first < faults.length && faults[first] == 0) {
            first++;
        }
        fault = first < faults.length ? faults[first] : 0;
        place = first < faults.length ? tokens.get(first).place : -1;
    }

    String name() {
        return tokens.get(0).word;
    }

    private static boolean isNone(String word) {
        return word.matches("[a-z]+") ? word.length() > 8
                : word.matches("[0-9]+") ? word.length() > 9 : !SIGNS.contains(word);
    }

    // The grammar: a set of places from which it goes on in, a set of places where it ends out.

    private Set<Integer> one(Set<Integer> starts, String... wanted) {
        Set<Integer> ends = new TreeSet<>();
        for (int start : starts) {
            boolean fits = false;
            for (String word : wanted) {
                String seen = tokens.get(start).word;
                fits |= switch (word) {
                    case "NAME" -> tokens.get(start).isWord() && !KEY_WORDS.contains(seen) && !isNone(seen);
                    case "NUMBER" -> seen.matches("[0-9]+") && !isNone(seen);
                    default -> seen.equals(word);
                };
            }
            if (fits && start < tokens.size() - 1) {
                ends.add(start + 1);
            }
            furthest = Math.max(furthest, fits ? start + 1 : start);
        }
        return ends;
    }

    private static Set<Integer> or(Set<Integer> a, Set<Integer> b) {
        Set<Integer> both = new TreeSet<>(a);
        both.addAll(b);
        return both;
    }

    private void rule() {
        Set<Integer> named = one(Set.of(0), "NAME");
        Set<Integer> sent = or(named, sum(one(named, "by")));
        Set<Integer> tested = or(sent, test(one(sent, "if")));
        Set<Integer> ends = list(one(tested, "out"), 4);
        if (ends.contains(tokens.size() - 1)) {
            furthest = tokens.size();
        }
    }

    private Set<Integer> list(Set<Integer> starts, int most) {
        Set<Integer> ends = sum(starts);
        Set<Integer> now = ends;
        for (int i = 1; i < most; i++) {
            now = sum(one(now, ","));
            ends = or(ends, now);
        }
        return ends;
    }

    private Set<Integer> test(Set<Integer> starts) {
        Set<Integer> ends = both(starts);
        for (Set<Integer> now = ends; !now.isEmpty();) {
            now = both(one(now, "or"));
            ends = or(ends, now);
        }
        return ends;
    }

    private Set<Integer> both(Set<Integer> starts) {
        Set<Integer> ends = single(starts);
        for (Set<Integer> now = ends; !now.isEmpty();) {
            now = single(one(now, "and"));
            ends = or(ends, now);
        }
        return ends;
    }

    private Set<Integer> single(Set<Integer> starts) {
        if (starts.isEmpty()) {
            return starts;
        }
        Set<Integer> ends = single(one(starts, "not"));
        ends = or(ends, one(test(one(starts, "[")), "]"));
        return or(ends, sum(one(sum(starts), "<", "<=", ">", ">=", "=", "#")));
    }

    private Set<Integer> sum(Set<Integer> starts) {
        Set<Integer> ends = part(starts);
        for (Set<Integer> now = ends; !now.isEmpty();) {
            now = part(one(now, "+", "-"));
            ends = or(ends, now);
        }
        return ends;
    }

    private Set<Integer> part(Set<Integer> starts) {
        Set<Integer> ends = unit(starts);
        for (Set<Integer> now = ends; !now.isEmpty();) {
            now = unit(one(now, "*", "/", "%"));
            ends = or(ends, now);
        }
        return ends;
    }

    private Set<Integer> unit(Set<Integer> starts) {
        if (starts.isEmpty()) {
            return starts;
        }
        Set<Integer> ends = one(starts, "NUMBER", "k", "t", "v", "n");
        ends = or(ends, unit(one(starts, "-")));
        ends = or(ends, one(sum(one(starts, "(")), ")"));
        Set<Integer> place = sum(one(one(starts, "pick"), "("));
        return or(ends, one(list(one(place, ":"), 6), ")"));
    }

    /** The token that is the 13th open one; only what comes ahead of the first that cannot stand means anything. */
    private int firstTooDeep() {
        Deque<String> open = new ArrayDeque<>();
        boolean unitMayCome = false;
        for (int i = 1; i < Math.min(furthest, tokens.size() - 1); i++) {
            String word = tokens.get(i).word;
            boolean endsUnit = false;
            switch (word) {
                case "and", "or", "out", "]" -> closeAll(open, "not");
                default -> {
                }
            }
            if (word.equals("(") && tokens.get(i - 1).word.equals("pick")) {
                unitMayCome = true;
                continue;
            }
            if (word.equals("not") || word.equals("[") || word.equals("(") || word.equals("pick")
                    || word.equals("-") && unitMayCome) {
                open.push(word);
            } else if (word.equals(")") || word.equals("]")) {
                open.pop();
                endsUnit = word.equals(")");
            } else if (word.matches("[0-9]+|[ktvn]")) {
                endsUnit = true;
            }
            if (endsUnit) {
                closeAll(open, "-");
            }
            unitMayCome = !endsUnit;
            if (open.size() == 13) {
                return i;
            }
        }
        return tokens.size();
    }

    private static void closeAll(Deque<String> open, String kind) {
        while (!open.isEmpty() && open.peek().equals(kind)) {
            open.pop();
        }
    }

    // Values. What is not live is gone through, but not done.

    Answer goes(long newK, long newT, long newV) {
        load(newK, newT, newV, 0);
        try {
            return new Answer(0, List.of(takes("by") ? valueOfSum(true) : k));
        } catch (Failure failure) {
            return new Answer(failure.number, List.of());
        }
    }

    Answer judges(long newK, long newT, long newV, long newN) {
        load(newK, newT, newV, newN);
        try {
            if (takes("by")) {
                valueOfSum(false);
            }
            List<Long> values = new ArrayList<>();
            if (takes("if") && !valueOfTest(true)) {
                return new Answer(0, values);
            }
            do {
                cursor++;
                values.add(valueOfSum(true));
            } while (tokens.get(cursor).word.equals(","));
            return new Answer(0, values);
        } catch (Failure failure) {
            return new Answer(failure.number, List.of());
        }
    }

    private void load(long newK, long newT, long newV, long newN) {
        k = newK;
        t = newT;
        v = newV;
        n = newN;
        cursor = 1;
    }

    private boolean takes(String word) {
        boolean is = tokens.get(cursor).word.equals(word);
        cursor += is ? 1 : 0;
        return is;
    }

    private boolean valueOfTest(boolean live) {
        boolean value = valueOfBoth(live);
        while (takes("or")) {
            boolean right = valueOfBoth(live && !value);
            value = value || right;
        }
        return value;
    }

    private boolean valueOfBoth(boolean live) {
        boolean value = valueOfOne(live);
        while (takes("and")) {
            boolean right = valueOfOne(live && value);
            value = value && right;
        }
        return value;
    }

    private boolean valueOfOne(boolean live) {
        if (takes("not")) {
            return !valueOfOne(live);
        }
        if (takes("[")) {
            boolean value = valueOfTest(live);
            cursor++;
            return value;
        }
        long left = valueOfSum(live);
        String sign = tokens.get(cursor++).word;
        int compared = Long.compare(left, valueOfSum(live));
        return switch (sign) {
            case "<" -> compared < 0;
            case "<=" -> compared <= 0;
            case ">" -> compared > 0;
            case ">=" -> compared >= 0;
            case "=" -> compared == 0;
            default -> compared != 0;
        };
    }

    private long valueOfSum(boolean live) {
        long value = valueOfPart(live);
        while (true) {
            if (takes("+")) {
                value += valueOfPart(live);
            } else if (takes("-")) {
                value -= valueOfPart(live);
            } else {
                return value;
            }
        }
    }

    private long valueOfPart(boolean live) {
        long value = valueOfUnit(live);
        while (true) {
            if (takes("*")) {
                value *= valueOfUnit(live);
            } else if (takes("/")) {
                long right = valueOfUnit(live);
                value = live ? value / nonZero(right) : 0;
            } else if (takes("%")) {
                long right = valueOfUnit(live);
                value = live ? value % nonZero(right) : 0;
            } else {
                return value;
            }
        }
    }

    private static long nonZero(long right) {
        if (right == 0) {
            throw new Failure(1);
        }
        return right;
    }

    private long valueOfUnit(boolean live) {
        String word = tokens.get(cursor++).word;
        switch (word) {
            case "k":
                return k;
            case "t":
                return t;
            case "v":
                return v;
            case "n":
                return n;
            case "-":
                return -valueOfUnit(live);
            case "(":
                long value = valueOfSum(live);
                cursor++;
                return value;
            case "pick":
                return valueOfPick(live);
            default:
                return Long.parseLong(word);
        }
    }

    private long valueOfPick(boolean live) {
        cursor++;
        long picked = valueOfSum(live);
        List<Long> values = new ArrayList<>();
        do {
            cursor++;
            values.add(valueOfSum(live));
        } while (tokens.get(cursor).word.equals(","));
        cursor++;
        if (!live) {
            return 0;
        }
        if (picked < 0 || picked >= values.size()) {
            throw new Failure(2);
        }
        return values.get((int) picked);
    }
}
