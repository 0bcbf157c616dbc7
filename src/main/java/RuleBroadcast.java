/**
 * Rules that are told as texts and sent to all tasks while rows flow.
 *
 * The words in capitals (TASK, CHANGE, VERSION, ..) are those of the document, which says what they mean.
 */
public final class RuleBroadcast {
    public static final int BAD = -1, FULL = -2, WAITS = -4, NONE = -5;

    private static final int MAX_TASKS = 6;
    private static final int MAX_MARKS = 4;
    private static final int BYTES_OF_A_FEED = 20;
    /** Faults' places and failures' numbers are told below this, out of the way of the refusals. */
    private static final int TOLD_BELOW = -10;

    private final Text text;
    private final Names names;
    private final Reader reader;
    private final Log log;
    private final Machine machine;
    private final Task[] allTasks;
    private final Mark[] allMarks;
    private int taskCount;
    private int markCount;
    private boolean isAlike;
    private boolean isAsOf;
    private int latestFault;
    private int lostRows;
    private int judgedRows;
    private int failures;

    public RuleBroadcast() {
        text = new Text();
        names = new Names();
        reader = new Reader();
        log = new Log();
        machine = new Machine();
        allTasks = new Task[MAX_TASKS];
        for (int i = 0; i < allTasks.length; i++) {
            allTasks[i] = new Task();
        }
        allMarks = new Mark[MAX_MARKS];
        for (int i = 0; i < allMarks.length; i++) {
            allMarks[i] = new Mark();
        }
        taskCount = 1;
    }

    public int feed(int a, int b, int c, int d, int e) {
        if (!text.hasRoomFor(BYTES_OF_A_FEED)) {
            return FULL;
        }
        text.append(a);
        text.append(b);
        text.append(c);
        text.append(d);
        text.append(e);
        return text.length;
    }

    public int keep(int n) {
        if (n < 0 || n > text.length) {
            return BAD;
        }
        int went = text.length - n;
        text.length = n;
        return went;
    }

    public int rule(long time) {
        if (log.isTooEarly(time)) {
            return BAD;
        }
        if (log.isFull()) {
            return FULL;
        }
        reader.read(text, names);
        text.length = 0;
        latestFault = reader.faultKind;
        if (reader.faultKind != 0) {
            return TOLD_BELOW - reader.faultPlace;
        }
        log.addTold(names.numberFor(reader.name), new Program(reader.draft), time);
        return log.size;
    }

    public int fault() {
        return latestFault;
    }

    public int drop(int rule, long time) {
        if (log.textIn(log.size, rule) == 0 || log.isTooEarly(time)) {
            return BAD;
        }
        if (log.isFull()) {
            return FULL;
        }
        log.addDropped(rule, time);
        return log.size;
    }

    public int alike(boolean on) {
        int was = isAlike ? 1 : 0;
        isAlike = on;
        return was;
    }

    public int asOf(boolean on) {
        int was = isAsOf ? 1 : 0;
        isAsOf = on;
        return was;
    }

    public int tasks(int n) {
        if (n < 1 || n > MAX_TASKS) {
            return BAD;
        }
        int were = taskCount;
        taskCount = n;
        for (int i = were; i < n; i++) {
            allTasks[i].begin(allTasks[0].applied, allTasks[0].offs);
        }
        for (int i = n; i < were; i++) {
            Task gone = allTasks[i];
            for (int j = 0; j < gone.waits; j++) {
                Row row = gone.waitingAt(j);
                if (row != null && comeTo(allTasks[i % n], row) == FULL) {
                    lostRows++;
                }
            }
        }
        return were;
    }

    public int row(int task, long k, long t, long v) {
        Task to = taskOf(task);
        return to == null ? BAD : comeTo(to, new Row(k, t, v, versionFor(to, t)));
    }

    public int goes(int rule, long k, long t, long v) {
        Program program = latestProgram(rule);
        if (program == null) {
            return BAD;
        }
        machine.load(k, t, v, 0);
        long by = machine.sendsBy(program);
        return machine.failure != 0 ? TOLD_BELOW - machine.failure : (int) Math.floorMod(by, (long) taskCount);
    }

    public int send(int rule, long k, long t, long v) {
        int number = goes(rule, k, t, v);
        Task to = taskOf(number);
        if (to == null) {
            return number;
        }
        // A row that waits has come to its task too: only a refusal stands in the number's place.
        return comeTo(to, new Row(k, t, v, versionFor(to, t))) == FULL ? FULL : number;
    }

    public int apply(int task, int n) {
        Task at = taskOf(task);
        if (at == null || n < 0 || n > Log.MAX_CHANGES) {
            return BAD;
        }
        int done = 0;
        // The log is asked anew each time: rows that are judged here may add changes to it.
        while (done < n && at.applied < log.size) {
            at.applied++;
            done++;
            judgeReady(at);
        }
        return done;
    }

    public long out(int task, int i) {
        Task at = taskOf(task);
        return at == null ? 0 : at.sumAt(i);
    }

    public int from(int task, int i) {
        Task at = taskOf(task);
        return at == null ? BAD : at.ruleOfSumAt(i);
    }

    public int at(long time) {
        return log.versionOf(time);
    }

    public int rules(int version, int rule, int what) {
        if (version < 0 || version > log.size || rule < 0 || rule >= names.size) {
            return BAD;
        }
        int told = log.textIn(version, rule);
        switch (what) {
            case 0:
                return told != 0 ? 1 : 0;
            case 1:
                return told != 0 ? told : NONE;
            case 2:
                return log.isOn(version, rule) ? 1 : 0;
            default:
                return BAD;
        }
    }

    public int off(int task, int rule) {
        Task at = taskOf(task);
        if (at == null || log.textIn(at.applied, rule) == 0) {
            return BAD;
        }
        return isOffAt(at, rule) ? 1 : 0;
    }

    public int change(int n, int what) {
        if (n < 1 || n > log.size) {
            return BAD;
        }
        switch (what) {
            case 0:
                return log.kinds[n];
            case 1:
                return log.rulesTold[n];
            case 2:
                return log.versionsBack[n];
            default:
                return BAD;
        }
    }

    public long when(int n) {
        return n < 1 || n > log.size ? 0 : log.times[n];
    }

    public int failed(int task, int what) {
        Task at = taskOf(task);
        if (at == null) {
            return BAD;
        }
        switch (what) {
            case 0:
                return at.failure;
            case 1:
                return at.failedRule;
            case 2:
                return at.failedText;
            default:
                return BAD;
        }
    }

    public int tries(int rule, long k, long t, long v) {
        Program program = latestProgram(rule);
        if (program == null) {
            return BAD;
        }
        machine.load(k, t, v, 0);
        int sums = machine.sumsOf(program);
        return machine.failure != 0 ? TOLD_BELOW - machine.failure : sums;
    }

    public int mark() {
        if (markCount >= MAX_MARKS) {
            return FULL;
        }
        Mark next = allMarks[markCount];
        next.version = log.size;
        for (int i = 0; i < MAX_TASKS; i++) {
            // A task that there is not now had no offs, should it be there at a restore.
            next.offs[i] = i < taskCount ? allTasks[i].offs : 0;
        }
        markCount++;
        return markCount - 1;
    }

    public int restore(int mark) {
        if (mark < 0 || mark >= markCount) {
            return BAD;
        }
        if (log.isFull()) {
            return FULL;
        }
        Mark back = allMarks[mark];
        log.addBack(back.version);
        for (int i = 0; i < taskCount; i++) {
            allTasks[i].offs = back.offs[i];
            lostRows += allTasks[i].waits;
            allTasks[i].waits = 0;
        }
        return log.size;
    }

    public int same(int a, int b) {
        Task one = taskOf(a);
        Task other = taskOf(b);
        if (one == null || other == null) {
            return BAD;
        }
        for (int i = 0; i < names.size; i++) {
            if (log.textIn(one.applied, i) != log.textIn(other.applied, i)
                    || isOffAt(one, i) != isOffAt(other, i)) {
                return 0;
            }
        }
        return 1;
    }

    public int count(int what) {
        switch (what) {
            case 0:
                return taskCount;
            case 1:
                return log.size;
            case 2:
                return names.size;
            case 3:
                return lostRows;
            case 4:
                return judgedRows;
            case 5:
                return failures;
            case 6:
                return markCount;
            default:
                return what < 10 ? BAD : countOfTask(taskOf(what % 10), what / 10);
        }
    }

    public int clear() {
        int were = log.size;
        text.length = 0;
        names.size = 0;
        log.size = 0;
        allTasks[0].begin(0, 0);
        taskCount = 1;
        markCount = 0;
        isAlike = false;
        isAsOf = false;
        latestFault = 0;
        lostRows = 0;
        judgedRows = 0;
        failures = 0;
        return were;
    }

    private Task taskOf(int number) {
        return number < 0 || number >= taskCount ? null : allTasks[number];
    }

    private Program latestProgram(int rule) {
        return log.programOf(log.textIn(log.size, rule));
    }

    private int versionFor(Task task, long time) {
        return isAsOf ? log.versionOf(time) : task.applied;
    }

    private static int countOfTask(Task task, int what) {
        if (task == null) {
            return BAD;
        }
        switch (what) {
            case 1:
                return task.applied;
            case 2:
                return task.judged;
            case 3:
                return task.waits;
            case 4:
                return task.kept;
            default:
                return BAD;
        }
    }

    /** Whether a rule is there at a task, but is not to judge rows. */
    private boolean isOffAt(Task task, int rule) {
        int told = log.textIn(task.applied, rule);
        return told != 0 && (!log.isOn(task.applied, rule) || task.hasOff(told));
    }

    /** How many SUMS came OUT, WAITS, or FULL if it would wait as the seventh. */
    private int comeTo(Task task, Row row) {
        if (row.version <= task.applied) {
            return judge(task, row);
        }
        return task.holdWaiting(row) ? WAITS : FULL;
    }

    private void judgeReady(Task task) {
        for (int i = 0; i < Task.MAX_WAITING; i++) {
            Row row = task.takeReady();
            if (row == null) {
                return;
            }
            judge(task, row);
        }
    }

    private int judge(Task task, Row row) {
        int sums = 0;
        for (int i = 0; i < names.size; i++) {
            int told = log.textIn(row.version, i);
            if (told != 0 && log.isOn(row.version, i) && !task.hasOff(told)) {
                sums += judgeByRule(task, row, i, told);
            }
        }
        task.judged++;
        judgedRows++;
        return sums;
    }

    private int judgeByRule(Task task, Row row, int rule, int told) {
        Program program = log.programOf(told);
        if (program == null) {
            return 0;
        }
        machine.load(row.k, row.t, row.v, task.judged);
        int sums = machine.sumsOf(program);
        if (machine.failure != 0) {
            failures++;
            task.noteFailure(machine.failure, rule, told);
            switchOffForAll(rule, told, row.t);
            return 0;
        }
        for (int i = 0; i < sums; i++) {
            task.keepSum(machine.valueAt(i), rule);
        }
        return sums;
    }

    private void switchOffForAll(int rule, int told, long time) {
        boolean isLatest = log.textIn(log.size, rule) == told && log.isOn(log.size, rule);
        if (isAlike && isLatest && !log.isFull()) {
            log.addOff(rule, Math.max(time, log.latestTime()));
        }
    }

    /** The bytes that were fed and not yet read. */
    private static final class Text {
        static final int MAX_BYTES = 200;

        final byte[] bytes;
        int length;

        Text() {
            bytes = new byte[MAX_BYTES];
        }

        boolean hasRoomFor(int more) {
            return length + more <= MAX_BYTES;
        }

        void append(int number) {
            for (int shift = 24; shift >= 0; shift -= 8) {
                if (length >= 0 && length < bytes.length) {
                    bytes[length] = (byte) (number >>> shift);
                    length++;
                }
            }
        }

        /** 0 to 255, and -1 where there is no byte. */
        int byteAt(int place) {
            return place >= 0 && place < length && place < bytes.length ? bytes[place] & 255 : -1;
        }
    }

    /** The names of rules, by their numbers; a name is its letters' bytes, packed. */
    private static final class Names {
        static final int MAX_NAMES = 8;

        final long[] packed;
        int size;

        Names() {
            packed = new long[MAX_NAMES];
        }

        boolean hasRoomFor(long name) {
            return size < MAX_NAMES || find(name) >= 0;
        }

        int numberFor(long name) {
            int number = find(name);
            if (number < 0 && size < packed.length) {
                number = size;
                packed[size] = name;
                size++;
            }
            return number;
        }

        private int find(long name) {
            for (int i = 0; i < size && i < packed.length; i++) {
                if (packed[i] == name) {
                    return i;
                }
            }
            return -1;
        }
    }

    /** A text cut into tokens. The kind of a sign or a key word is its bytes, packed: none is like another. */
    private static final class Tokens {
        static final int BY = 'b' << 8 | 'y';
        static final int IF = 'i' << 8 | 'f';
        static final int OUT = 'o' << 16 | 'u' << 8 | 't';
        static final int OR = 'o' << 8 | 'r';
        static final int AND = 'a' << 16 | 'n' << 8 | 'd';
        static final int NOT = 'n' << 16 | 'o' << 8 | 't';
        static final int PICK = 'p' << 24 | 'i' << 16 | 'c' << 8 | 'k';
        static final int NOT_ABOVE = '<' << 8 | '=';
        static final int NOT_BELOW = '>' << 8 | '=';
        static final int END = -1;
        static final int NO_TOKEN = -2;
        static final int NAME = -3;
        static final int NUMBER = -4;

        private static final int[] KEY_WORDS = {BY, IF, OUT, OR, AND, NOT, PICK, 'k', 't', 'v', 'n'};
        private static final String SIGNS = "()[]+-*/%,:<>=#";
        private static final int MAX_LETTERS = 8;
        private static final int MAX_DIGITS = 9;

        final int[] kinds;
        final int[] places;
        /** Of a NUMBER its value, of a NAME its letters, packed. */
        final long[] values;
        int size;

        Tokens() {
            kinds = new int[Text.MAX_BYTES + 1];
            places = new int[Text.MAX_BYTES + 1];
            values = new long[Text.MAX_BYTES + 1];
        }

        void scan(Text text) {
            size = 0;
            int place = 0;
            while (place < text.length) {
                int width = isBlank(text.byteAt(place)) ? 1 : scanToken(text, place);
                place += Math.max(1, width);
            }
            add(END, text.length, 0);
        }

        int kindAt(int i) {
            return i >= 0 && i < size && i < kinds.length ? kinds[i] : END;
        }

        int placeAt(int i) {
            return i >= 0 && i < size && i < places.length ? places[i] : 0;
        }

        long valueAt(int i) {
            return i >= 0 && i < size && i < values.length ? values[i] : 0;
        }

        private void add(int kind, int place, long value) {
            if (size >= 0 && size < kinds.length && size < places.length && size < values.length) {
                kinds[size] = kind;
                places[size] = place;
                values[size] = value;
                size++;
            }
        }

        private int scanToken(Text text, int place) {
            int first = text.byteAt(place);
            if (isLetter(first)) {
                return scanWord(text, place);
            }
            if (isDigit(first)) {
                return scanNumber(text, place);
            }
            return scanSign(text, place);
        }

        private int scanWord(Text text, int place) {
            long letters = 0;
            int end = place;
            while (end < text.length && isLetter(text.byteAt(end))) {
                letters = letters << 8 | text.byteAt(end);
                end++;
            }
            if (end - place > MAX_LETTERS) {
                add(NO_TOKEN, place, 0);
            } else if (isKeyWord(letters)) {
                add((int) letters, place, 0);
            } else {
                add(NAME, place, letters);
            }
            return end - place;
        }

        private int scanNumber(Text text, int place) {
            long value = 0;
            int end = place;
            while (end < text.length && isDigit(text.byteAt(end))) {
                value = value * 10 + (text.byteAt(end) - '0');
                end++;
            }
            add(end - place > MAX_DIGITS ? NO_TOKEN : NUMBER, place, value);
            return end - place;
        }

        private int scanSign(Text text, int place) {
            int first = text.byteAt(place);
            if ((first == '<' || first == '>') && text.byteAt(place + 1) == '=') {
                add(first << 8 | '=', place, 0);
                return 2;
            }
            add(SIGNS.indexOf((char) first) >= 0 ? first : NO_TOKEN, place, 0);
            return 1;
        }

        private static boolean isKeyWord(long letters) {
            for (int i = 0; i < KEY_WORDS.length; i++) {
                if (KEY_WORDS[i] == letters) {
                    return true;
                }
            }
            return false;
        }

        private static boolean isBlank(int b) {
            return b == 32 || b == 10;
        }

        private static boolean isLetter(int b) {
            return b >= 'a' && b <= 'z';
        }

        private static boolean isDigit(int b) {
            return b >= '0' && b <= '9';
        }
    }

    /**
     * What a rule's text does, as steps for the machine: first those of its by, then of its test, then of its
     * sums. A step is the kind of the token that it came from, but for NEGATE: the sign - has two meanings.
     */
    private static final class Program {
        static final int NEGATE = -10;

        final int[] steps;
        /** Of a number its value, of pick how many there are to pick from, of or and and where the right ends. */
        final int[] details;
        int size;
        int endOfBy;
        int endOfTest;
        int sums;

        /** An empty one; no token makes more than one step. */
        Program() {
            steps = new int[Text.MAX_BYTES];
            details = new int[Text.MAX_BYTES];
        }

        Program(Program draft) {
            size = Math.max(0, draft.size);
            steps = new int[size];
            details = new int[size];
            for (int i = 0; i < size; i++) {
                steps[i] = draft.stepAt(i);
                details[i] = draft.detailAt(i);
            }
            endOfBy = draft.endOfBy;
            endOfTest = draft.endOfTest;
            sums = draft.sums;
        }

        void add(int step, int detail) {
            if (size >= 0 && size < steps.length && size < details.length) {
                steps[size] = step;
                details[size] = detail;
                size++;
            }
        }

        void setDetail(int i, int detail) {
            if (i >= 0 && i < details.length) {
                details[i] = detail;
            }
        }

        int stepAt(int i) {
            return i >= 0 && i < steps.length ? steps[i] : 0;
        }

        int detailAt(int i) {
            return i >= 0 && i < details.length ? details[i] : 0;
        }
    }

    /** Reads a text as a rule, and stops at the first token that has a fault: from there it sees nothing more. */
    private static final class Reader {
        private static final int IS_NO_TOKEN = 1;
        private static final int CANNOT_STAND = 2;
        private static final int TOO_DEEP = 3;
        private static final int NINTH_NAME = 4;
        private static final int STOPPED = -20;
        private static final int MAX_OPEN = 12;
        private static final int MAX_SUMS = 4;
        private static final int MAX_PICKS = 6;

        final Tokens tokens;
        final Program draft;
        long name;
        int faultKind;
        int faultPlace;
        private int cursor;
        private int open;

        Reader() {
            tokens = new Tokens();
            draft = new Program();
        }

        void read(Text text, Names names) {
            tokens.scan(text);
            draft.size = 0;
            faultKind = 0;
            faultPlace = 0;
            cursor = 0;
            open = 0;
            readName(names);
            if (seen() == Tokens.BY) {
                cursor++;
                readSum();
            }
            draft.endOfBy = draft.size;
            if (seen() == Tokens.IF) {
                cursor++;
                readTest();
            }
            draft.endOfTest = draft.size;
            expect(Tokens.OUT);
            draft.sums = readSums(MAX_SUMS);
            expect(Tokens.END);
        }

        private int seen() {
            return faultKind == 0 ? tokens.kindAt(cursor) : STOPPED;
        }

        private void stop(int kind) {
            if (faultKind == 0) {
                faultKind = tokens.kindAt(cursor) == Tokens.NO_TOKEN ? IS_NO_TOKEN : kind;
                faultPlace = tokens.placeAt(cursor);
            }
        }

        private void expect(int kind) {
            if (seen() == kind) {
                cursor++;
            } else {
                stop(CANNOT_STAND);
            }
        }

        /** The token that is seen opens something. That few are open at once keeps the recursion low, too. */
        private void enter() {
            if (open >= MAX_OPEN) {
                stop(TOO_DEEP);
            } else {
                open++;
                cursor++;
            }
        }

        private void readName(Names names) {
            name = tokens.valueAt(cursor);
            if (seen() == Tokens.NAME && !names.hasRoomFor(name)) {
                stop(NINTH_NAME);
            }
            expect(Tokens.NAME);
        }

        private void readTest() {
            readBoth();
            for (int i = 0; i < tokens.size && seen() == Tokens.OR; i++) {
                int decision = draft.size;
                draft.add(Tokens.OR, 0);
                cursor++;
                readBoth();
                draft.setDetail(decision, draft.size);
            }
        }

        private void readBoth() {
            readOne();
            for (int i = 0; i < tokens.size && seen() == Tokens.AND; i++) {
                int decision = draft.size;
                draft.add(Tokens.AND, 0);
                cursor++;
                readOne();
                draft.setDetail(decision, draft.size);
            }
        }

        private void readOne() {
            if (seen() == Tokens.NOT) {
                enter();
                readOne();
                open--;
                draft.add(Tokens.NOT, 0);
            } else if (seen() == '[') {
                enter();
                readTest();
                expect(']');
                open--;
            } else {
                readComparison();
            }
        }

        private void readComparison() {
            readSum();
            int sign = seen();
            switch (sign) {
                case '<':
                case '>':
                case '=':
                case '#':
                case Tokens.NOT_ABOVE:
                case Tokens.NOT_BELOW:
                    cursor++;
                    readSum();
                    draft.add(sign, 0);
                    break;
                default:
                    stop(CANNOT_STAND);
            }
        }

        private int readSums(int most) {
            readSum();
            int read = 1;
            while (read < most && seen() == ',') {
                cursor++;
                readSum();
                read++;
            }
            return read;
        }

        private void readSum() {
            readPart();
            for (int i = 0; i < tokens.size && (seen() == '+' || seen() == '-'); i++) {
                int sign = seen();
                cursor++;
                readPart();
                draft.add(sign, 0);
            }
        }

        private void readPart() {
            readUnit();
            for (int i = 0; i < tokens.size && (seen() == '*' || seen() == '/' || seen() == '%'); i++) {
                int sign = seen();
                cursor++;
                readUnit();
                draft.add(sign, 0);
            }
        }

        private void readUnit() {
            int kind = seen();
            switch (kind) {
                case Tokens.NUMBER:
                    draft.add(kind, (int) tokens.valueAt(cursor));
                    cursor++;
                    break;
                case 'k':
                case 't':
                case 'v':
                case 'n':
                    draft.add(kind, 0);
                    cursor++;
                    break;
                case '-':
                    enter();
                    readUnit();
                    open--;
                    draft.add(Program.NEGATE, 0);
                    break;
                case '(':
                    enter();
                    readSum();
                    expect(')');
                    open--;
                    break;
                case Tokens.PICK:
                    readPick();
                    break;
                default:
                    stop(CANNOT_STAND);
            }
        }

        private void readPick() {
            enter();
            expect('(');
            readSum();
            expect(':');
            int choices = readSums(MAX_PICKS);
            expect(')');
            open--;
            draft.add(Tokens.PICK, choices);
        }
    }

    /** Does a program's steps for one row, and stops at the first failure. */
    private static final class Machine {
        private static final int BY_ZERO = 1;
        private static final int NO_SUCH_PLACE = 2;

        private final long[] stack;
        private int top;
        private long k;
        private long t;
        private long v;
        private long n;
        int failure;

        /** No step adds more than one value. */
        Machine() {
            stack = new long[Text.MAX_BYTES];
        }

        void load(long newK, long newT, long newV, long newN) {
            k = newK;
            t = newT;
            v = newV;
            n = newN;
        }

        long sendsBy(Program program) {
            run(program, 0, program.endOfBy);
            return program.endOfBy == 0 ? k : valueAt(0);
        }

        /** How many sums come out; valueAt() tells them then. */
        int sumsOf(Program program) {
            run(program, program.endOfBy, program.endOfTest);
            boolean hasTest = program.endOfTest > program.endOfBy;
            if (failure != 0 || hasTest && valueAt(0) == 0) {
                return 0;
            }
            run(program, program.endOfTest, program.size);
            return failure != 0 ? 0 : program.sums;
        }

        long valueAt(int i) {
            return i >= 0 && i < top && i < stack.length ? stack[i] : 0;
        }

        private void run(Program program, int start, int end) {
            top = 0;
            failure = 0;
            int next = start;
            while (next < end && failure == 0) {
                int step = program.stepAt(next);
                int detail = program.detailAt(next);
                next++;
                switch (step) {
                    case Tokens.NUMBER:
                        push(detail);
                        break;
                    case 'k':
                        push(k);
                        break;
                    case 't':
                        push(t);
                        break;
                    case 'v':
                        push(v);
                        break;
                    case 'n':
                        push(n);
                        break;
                    case Program.NEGATE:
                        push(-pop());
                        break;
                    case Tokens.NOT:
                        push(pop() == 0 ? 1 : 0);
                        break;
                    case Tokens.PICK:
                        pick(detail);
                        break;
                    case Tokens.OR:
                    case Tokens.AND:
                        if (isDecidedByLeft(step)) {
                            // Never back, so that the loop ends.
                            next = Math.max(next, detail);
                        } else {
                            pop();
                        }
                        break;
                    default:
                        combine(step);
                }
            }
        }

        private void push(long value) {
            if (top >= 0 && top < stack.length) {
                stack[top] = value;
                top++;
            }
        }

        private long pop() {
            if (top <= 0 || top > stack.length) {
                return 0;
            }
            top--;
            return stack[top];
        }

        private boolean isDecidedByLeft(int step) {
            boolean left = valueAt(top - 1) != 0;
            return left == (step == Tokens.OR);
        }

        private void pick(int choices) {
            int base = Math.max(0, top - choices - 1);
            long place = valueAt(base);
            if (place < 0 || place >= choices) {
                failure = NO_SUCH_PLACE;
                return;
            }
            long picked = valueAt(base + 1 + (int) place);
            top = base;
            push(picked);
        }

        private void combine(int sign) {
            long right = pop();
            long left = pop();
            if (right == 0 && (sign == '/' || sign == '%')) {
                failure = BY_ZERO;
            } else {
                push(combined(sign, left, right));
            }
        }

        private static long combined(int sign, long left, long right) {
            switch (sign) {
                case '+':
                    return left + right;
                case '-':
                    return left - right;
                case '*':
                    return left * right;
                case '/':
                    return right == 0 ? 0 : left / right;
                case '%':
                    return right == 0 ? 0 : left % right;
                case '<':
                    return left < right ? 1 : 0;
                case '>':
                    return left > right ? 1 : 0;
                case '=':
                    return left == right ? 1 : 0;
                case Tokens.NOT_ABOVE:
                    return left <= right ? 1 : 0;
                case Tokens.NOT_BELOW:
                    return left >= right ? 1 : 0;
                default:
                    return left != right ? 1 : 0;
            }
        }
    }

    /** The changes, from 1 on, and what each version made of them holds. */
    private static final class Log {
        static final int MAX_CHANGES = 60;

        private static final int TOLD = 1;
        private static final int DROPPED = 2;
        private static final int OFF = 3;
        private static final int BACK = 4;

        final int[] kinds;
        final int[] rulesTold;
        final int[] versionsBack;
        final long[] times;
        private final Program[] programs;
        /** By version and rule: the text's number, 0 if the rule is not there. Version 0 stays empty. */
        private final int[] texts;
        /** By version: bit x is set if rule x is there and on. */
        private final int[] ons;
        int size;

        Log() {
            kinds = new int[MAX_CHANGES + 1];
            rulesTold = new int[MAX_CHANGES + 1];
            versionsBack = new int[MAX_CHANGES + 1];
            times = new long[MAX_CHANGES + 1];
            programs = new Program[MAX_CHANGES + 1];
            texts = new int[(MAX_CHANGES + 1) * Names.MAX_NAMES];
            ons = new int[MAX_CHANGES + 1];
        }

        boolean isFull() {
            return size >= MAX_CHANGES;
        }

        boolean isTooEarly(long time) {
            return size > 0 && time < times[size];
        }

        long latestTime() {
            return size > 0 ? times[size] : 0;
        }

        int versionOf(long time) {
            int version = 0;
            while (version < size && times[version + 1] <= time) {
                version++;
            }
            return version;
        }

        void addTold(int rule, Program program, long time) {
            if (isFull()) {
                return;
            }
            add(TOLD, rule, NONE, time);
            programs[size] = program;
            set(rule, size, true);
        }

        void addDropped(int rule, long time) {
            add(DROPPED, rule, NONE, time);
            set(rule, 0, false);
        }

        void addOff(int rule, long time) {
            add(OFF, rule, NONE, time);
            set(rule, textIn(size, rule), false);
        }

        void addBack(int version) {
            add(BACK, NONE, version, latestTime());
        }

        /** 0: the rule is not there, or there is no such rule or version. */
        int textIn(int version, int rule) {
            return isCell(version, rule) ? texts[version * Names.MAX_NAMES + rule] : 0;
        }

        boolean isOn(int version, int rule) {
            return isCell(version, rule) && (ons[version] >>> rule & 1) != 0;
        }

        Program programOf(int told) {
            return told > 0 && told <= size ? programs[told] : null;
        }

        private boolean isCell(int version, int rule) {
            return version >= 0 && version <= size && rule >= 0 && rule < Names.MAX_NAMES;
        }

        /** The new version is as the latest one, or as the one that all is back at. */
        private void add(int kind, int rule, int versionBack, long time) {
            int like = versionBack == NONE ? size : versionBack;
            if (isFull() || like < 0 || like > size) {
                return;
            }
            size++;
            kinds[size] = kind;
            rulesTold[size] = rule;
            versionsBack[size] = versionBack;
            times[size] = time;
            ons[size] = ons[like];
            for (int i = 0; i < Names.MAX_NAMES; i++) {
                texts[size * Names.MAX_NAMES + i] = texts[like * Names.MAX_NAMES + i];
            }
        }

        private void set(int rule, int told, boolean on) {
            if (isCell(size, rule)) {
                texts[size * Names.MAX_NAMES + rule] = told;
                ons[size] = on ? ons[size] | 1 << rule : ons[size] & ~(1 << rule);
            }
        }
    }

    /** A row that came, with its version. */
    private static final class Row {
        final long k;
        final long t;
        final long v;
        final int version;

        Row(long k, long t, long v, int version) {
            this.k = k;
            this.t = t;
            this.v = v;
            this.version = version;
        }
    }

    private static final class Task {
        static final int MAX_WAITING = 6;
        private static final int MAX_KEPT = 40;

        int applied;
        /** Bit x is set if the text of number x is off here; there are 60 at most. */
        long offs;
        int judged;
        private final Row[] waiting;
        int waits;
        /** A ring: what comes next stands at nextSum, in place of what is too old to keep. */
        private final long[] sums;
        private final int[] rulesOfSums;
        private int nextSum;
        int kept;
        int failure;
        int failedRule;
        int failedText;

        Task() {
            waiting = new Row[MAX_WAITING];
            sums = new long[MAX_KEPT];
            rulesOfSums = new int[MAX_KEPT];
            failedRule = NONE;
            failedText = NONE;
        }

        void begin(int startApplied, long startOffs) {
            applied = startApplied;
            offs = startOffs;
            judged = 0;
            waits = 0;
            nextSum = 0;
            kept = 0;
            failure = 0;
            failedRule = NONE;
            failedText = NONE;
        }

        boolean hasOff(int told) {
            return (offs >>> told & 1) != 0;
        }

        void noteFailure(int number, int rule, int told) {
            failure = number;
            failedRule = rule;
            failedText = told;
            offs |= 1L << told;
        }

        boolean holdWaiting(Row row) {
            if (waits < 0 || waits >= waiting.length) {
                return false;
            }
            waiting[waits] = row;
            waits++;
            return true;
        }

        Row waitingAt(int i) {
            return i >= 0 && i < waits && i < waiting.length ? waiting[i] : null;
        }

        /** The first that need not wait any more, or null. */
        Row takeReady() {
            for (int i = 0; i < waits; i++) {
                Row row = waitingAt(i);
                if (row != null && row.version <= applied) {
                    closeGap(i);
                    return row;
                }
            }
            return null;
        }

        private void closeGap(int gap) {
            for (int i = gap; i >= 0 && i + 1 < waits && i + 1 < waiting.length; i++) {
                waiting[i] = waiting[i + 1];
            }
            waits--;
        }

        void keepSum(long sum, int rule) {
            if (nextSum < 0 || nextSum >= MAX_KEPT) {
                return;
            }
            sums[nextSum] = sum;
            rulesOfSums[nextSum] = rule;
            nextSum = (nextSum + 1) % MAX_KEPT;
            kept = Math.min(kept + 1, MAX_KEPT);
        }

        long sumAt(int age) {
            return age < 0 || age >= kept ? 0 : sums[Math.floorMod(nextSum - 1 - age, MAX_KEPT)];
        }

        int ruleOfSumAt(int age) {
            return age < 0 || age >= kept ? NONE : rulesOfSums[Math.floorMod(nextSum - 1 - age, MAX_KEPT)];
        }
    }

    private static final class Mark {
        int version;
        final long[] offs;

        Mark() {
            offs = new long[MAX_TASKS];
        }
    }
}
