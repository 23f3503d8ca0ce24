/** A wall of gauges: boxes made of sources by a text, asked, planned and laid as DOC.md says. */
public final class GaugeWall {
    public static final int NONE = -1;

    private static final int ABOVE_BUDGET = -2;
    private static final int TICKS = 400;
    private static final int SOURCES = 6;
    private static final int ALL_SOURCES = 63;
    private static final int MOST_BOXES = 6;
    private static final int MOST_LETS = 12;
    private static final int MOST_TELLS = MOST_BOXES + MOST_LETS;
    private static final int MOST_TOKENS = 400;
    private static final int MOST_BYTES = 2000;
    private static final int FED_BYTES = 20;
    private static final int DEEPEST = 8;
    private static final int WALL_COLUMNS = 8;
    private static final int LAST_FIXED_ROW = 30;
    private static final int MOST_PLANNED_BOXES = 4;
    private static final int MOST_PLANNED_TICKS = 10;

    // What a token is; a sign is its own byte, so these stay below all signs.
    private static final int END = 0;
    private static final int NO_TOKEN = 1;
    private static final int INT = 2;
    private static final int NAME = 3;
    private static final int LET = 4;
    private static final int BOX = 5;
    private static final int WORTH = 6;
    private static final int FRESH = 7;
    private static final int SIZE = 8;
    private static final int MIN = 9;
    private static final int MAX = 10;

    // What a step of a script does, beside INT, NAME, LET, MIN, MAX and the signs + - *.
    private static final int SOURCE = 11;

    private static final int SYNTAX_FAULT = 1;
    private static final int ROOM_FAULT = 2;
    private static final int TWICE_FAULT = 3;
    private static final int NAME_FAULT = 4;
    private static final int WRONG_FAULT = 5;

    private final Tape tape;
    private final Parser parser;
    private final Sources sources;
    private final Box[] boxes;
    private final Planner planner;
    private final Plan atHand;
    private final Laying laying;
    private Script script;
    private Script draft;
    private int boxCount;
    private int now;
    private boolean laid;

    public GaugeWall() {
        tape = new Tape();
        parser = new Parser();
        sources = new Sources();
        boxes = new Box[MOST_BOXES];
        for (int k = 0; k < boxes.length; k++) {
            boxes[k] = new Box();
        }
        planner = new Planner();
        atHand = new Plan();
        laying = new Laying();
        script = new Script();
        draft = new Script();
    }

    public int feed(int a, int b, int c, int d, int e) {
        if (tape.length + FED_BYTES > MOST_BYTES) {
            return NONE;
        }
        tape.append(a);
        tape.append(b);
        tape.append(c);
        tape.append(d);
        tape.append(e);
        return tape.length;
    }

    public int back(int n) {
        if (n < 0 || n > tape.length) {
            return NONE;
        }
        tape.length -= n;
        return tape.length;
    }

    public int read() {
        int fault = parser.parse(tape, draft);
        tape.length = 0;
        if (fault == 0) {
            hangDraft();
        }
        return fault;
    }

    public int place() {
        return parser.faultPlace;
    }

    public boolean cost(int source, int c) {
        if (!isSource(source) || c < 1 || c > 9) {
            return false;
        }
        sources.costs[source] = c;
        return true;
    }

    public boolean budget(int b) {
        if (b < 0 || b > 60) {
            return false;
        }
        sources.limit = b;
        return true;
    }

    public int value(int source, int t, int v) {
        if (!isSource(source) || t < 0 || t >= TICKS) {
            return NONE;
        }
        return sources.addFact(source, t, v);
    }

    public boolean down(int source, int a, int b) {
        if (!isSource(source) || a < now || a >= b || b > TICKS) {
            return false;
        }
        return sources.addDown(source, a, b);
    }

    public int ask(int set) {
        if (set < 0 || set > ALL_SOURCES) {
            return NONE;
        }
        if (!sources.pay(set)) {
            return ABOVE_BUDGET;
        }
        return renewBoxes();
    }

    public int tick() {
        if (now >= TICKS - 1) {
            return NONE;
        }
        now++;
        sources.startTick();
        for (int k = 0; k < boxCount; k++) {
            boxes[k].carryInto(now);
        }
        return now;
    }

    public boolean look(int box) {
        if (!isBox(box)) {
            return false;
        }
        boxes[box].looks++;
        boxes[box].lastLook = now;
        return true;
    }

    public long shows(int box) {
        return showed(box, now);
    }

    public long showed(int box, int t) {
        if (!isBox(box) || !isPast(t)) {
            return 0;
        }
        return boxes[box].shown[t];
    }

    public int box(int k, int what) {
        if (!isBox(k)) {
            return NONE;
        }
        Box box = boxes[k];
        switch (what) {
            case 0: return box.worth;
            case 1: return box.fresh;
            case 2: return box.wide;
            case 3: return box.high;
            case 4: return box.needs;
            case 5: return box.isStale(now) ? 1 : 0;
            case 6: return box.ageAt(now);
            case 7: return box.looks;
            case 8: return box.lastLook;
            case 9: return box.renewals;
            case 10: return sources.costOf(ownSources(k));
            default: return NONE;
        }
    }

    public int aged(int box, int t) {
        if (!isBox(box) || !isPast(t)) {
            return NONE;
        }
        return boxes[box].ageAt(t);
    }

    public long let(int k) {
        if (k < 0 || k >= script.letCount) {
            return 0;
        }
        script.evaluateLets(sources.valuesAt(now));
        return script.letValues[k];
    }

    public int plan(int set, int h) {
        if (!isPlannable(set) || h < 1 || h > MOST_PLANNED_TICKS || now + h > TICKS) {
            return NONE;
        }
        planner.begin(sources, now, h);
        for (int k = 0; k < boxCount; k++) {
            if ((set >> k & 1) != 0) {
                planner.choose(boxes[k], k);
            }
        }
        return planner.makePlan(atHand);
    }

    public int planned(int i) {
        if (i < 0 || i >= atHand.ticks) {
            return NONE;
        }
        return atHand.sets[i];
    }

    public int left() {
        return atHand.ticks == 0 ? NONE : atHand.leftBoxes;
    }

    public int follow() {
        int set = planned(now - atHand.start);
        return set == NONE ? NONE : ask(set);
    }

    public boolean fix(int box, int row, int column) {
        if (!isBox(box)) {
            return false;
        }
        if (row != NONE && !canBeFixed(box, row, column)) {
            return false;
        }
        boxes[box].fixedRow = row;
        boxes[box].fixedColumn = row == NONE ? NONE : column;
        return true;
    }

    public int lay(int w) {
        if (w < 1 || w > WALL_COLUMNS || boxCount == 0 || !fitsColumns(w)) {
            return NONE;
        }
        laid = true;
        return laying.arrange(boxes, boxCount, w);
    }

    public int at(int box, int what) {
        if (!laid || !isBox(box)) {
            return NONE;
        }
        switch (what) {
            case 0: return laying.bestRows[box];
            case 1: return laying.bestColumns[box];
            default: return NONE;
        }
    }

    public int unseen(int d, int i) {
        if (d < 1 || d > TICKS || i < 0) {
            return NONE;
        }
        int met = 0;
        for (int k = 0; k < boxCount; k++) {
            int lastLook = boxes[k].lastLook;
            if (lastLook != NONE && lastLook > now - d) {
                continue;
            }
            if (met == i) {
                return k;
            }
            met++;
        }
        return NONE;
    }

    public int count(int what) {
        switch (what) {
            case 0: return boxCount;
            case 1: return script.letCount;
            case 2: return now;
            case 3: return sources.factCount;
            case 4: return sources.spent;
            case 5: return sources.spentInAll;
            case 6: return sources.asked;
            case 7: return sources.limit;
            case 8: return staleBoxes();
            case 9: return tape.length;
            default: return NONE;
        }
    }

    private static boolean isSource(int source) {
        return source >= 0 && source < SOURCES;
    }

    private boolean isBox(int k) {
        return k >= 0 && k < boxCount;
    }

    private boolean isPast(int t) {
        return t >= 0 && t <= now;
    }

    private boolean isPlannable(int set) {
        return set > 0 && set < 1 << boxCount && Integer.bitCount(set) <= MOST_PLANNED_BOXES;
    }

    /** The draft and the script change places, so that no text needs rows of its own. */
    private void hangDraft() {
        Script read = draft;
        draft = script;
        script = read;
        boxCount = script.boxCount;
        for (int k = 0; k < boxCount; k++) {
            boxes[k].become(script.tells[script.boxTells[k]], now);
        }
        atHand.ticks = 0;
        laid = false;
    }

    private int renewBoxes() {
        int answering = sources.asked & ~sources.downAt(now);
        int renewed = 0;
        for (int k = 0; k < boxCount; k++) {
            Box box = boxes[k];
            if (box.renewedBy[now] == now || (box.needs & ~answering) != 0) {
                continue;
            }
            if (renewed == 0) {
                script.evaluateLets(sources.valuesAt(now));
            }
            box.renew(now, script.evaluate(box.codeStart, box.codeEnd));
            renewed++;
        }
        return renewed;
    }

    private int ownSources(int k) {
        int own = boxes[k].needs;
        for (int other = 0; other < boxCount; other++) {
            if (other != k) {
                own &= ~boxes[other].needs;
            }
        }
        return own;
    }

    private int staleBoxes() {
        int stale = 0;
        for (int k = 0; k < boxCount; k++) {
            if (boxes[k].isStale(now)) {
                stale++;
            }
        }
        return stale;
    }

    private boolean canBeFixed(int k, int row, int column) {
        if (row < 0 || row > LAST_FIXED_ROW || column < 0 || column >= WALL_COLUMNS) {
            return false;
        }
        if (column + boxes[k].wide > WALL_COLUMNS) {
            return false;
        }
        for (int other = 0; other < boxCount; other++) {
            if (other != k && boxes[other].isFixedOver(row, column, boxes[k])) {
                return false;
            }
        }
        return true;
    }

    private boolean fitsColumns(int w) {
        for (int k = 0; k < boxCount; k++) {
            int column = boxes[k].isFixed() ? boxes[k].fixedColumn : 0;
            if (column + boxes[k].wide > w) {
                return false;
            }
        }
        return true;
    }

    /** The bytes that were fed and not read yet. */
    private static final class Tape {
        private final byte[] bytes = new byte[MOST_BYTES];
        private int length;

        void append(int word) {
            for (int shift = 24; shift >= 0 && length < bytes.length; shift -= 8) {
                bytes[length] = (byte) (word >> shift);
                length++;
            }
        }

        int byteAt(int i) {
            return i >= 0 && i < length ? bytes[i] & 255 : NONE;
        }
    }

    /** The tokens of a tape: 401 at most, or up to its end, or to the first thing that is none. */
    private static final class Tokens {
        // The names are packed a byte a letter, so that a long holds each of them.
        private static final long[] WORDS = {
            0x6c6574L, 0x626f78L, 0x776f727468L, 0x6672657368L, 0x73697a65L, 0x6d696eL, 0x6d6178L
        };
        private static final int[] WORD_KINDS = {LET, BOX, WORTH, FRESH, SIZE, MIN, MAX};
        private static final int LONGEST_NAME = 8;
        private static final int LONGEST_INT = 4;

        private final int[] kinds = new int[MOST_TOKENS + 1];
        private final int[] places = new int[MOST_TOKENS + 1];
        private final long[] values = new long[MOST_TOKENS + 1];
        private int size;

        void split(Tape tape) {
            size = 0;
            int i = skipBlanks(tape, 0);
            boolean more = true;
            for (int n = 0; n < kinds.length && more; n++) {
                int next = addToken(tape, i);
                more = next > i;
                i = skipBlanks(tape, next);
            }
        }

        int kindAt(int i) {
            return i >= 0 && i < size ? kinds[i] : END;
        }

        int placeAt(int i) {
            return i >= 0 && i < size ? places[i] : NONE;
        }

        long valueAt(int i) {
            return i >= 0 && i < size ? values[i] : 0;
        }

        /** Answers the byte behind the token, or its own where nothing more is to be read. */
        private int addToken(Tape tape, int i) {
            int c = tape.byteAt(i);
            if (c == NONE) {
                return put(END, i, 0, i);
            }
            if (isLetter(c)) {
                return addName(tape, i);
            }
            if (isDigit(c)) {
                return addInt(tape, i);
            }
            return isSign(c) ? put(c, i, 0, i + 1) : put(NO_TOKEN, i, 0, i);
        }

        private int addName(Tape tape, int start) {
            long packed = 0;
            int i = start;
            while (i < tape.length && (isLetter(tape.byteAt(i)) || isDigit(tape.byteAt(i)))) {
                packed = packed << 8 | tape.byteAt(i);
                i++;
            }
            if (i - start > LONGEST_NAME) {
                return put(NO_TOKEN, start, 0, start);
            }
            return put(kindOfWord(packed), start, packed, i);
        }

        private int addInt(Tape tape, int start) {
            long number = 0;
            int i = start;
            while (i < tape.length && isDigit(tape.byteAt(i))) {
                number = number * 10 + tape.byteAt(i) - '0';
                i++;
            }
            if (i - start > LONGEST_INT) {
                return put(NO_TOKEN, start, 0, start);
            }
            return put(INT, start, number, i);
        }

        private int put(int kind, int place, long value, int next) {
            if (size < kinds.length) {
                kinds[size] = kind;
                places[size] = place;
                values[size] = value;
                size++;
            }
            return next;
        }

        private static int skipBlanks(Tape tape, int start) {
            int i = start;
            while (i < tape.length && isBlank(tape.byteAt(i))) {
                i++;
            }
            return i;
        }

        private static int kindOfWord(long packed) {
            for (int n = 0; n < WORDS.length && n < WORD_KINDS.length; n++) {
                if (WORDS[n] == packed) {
                    return WORD_KINDS[n];
                }
            }
            return NAME;
        }

        private static boolean isBlank(int c) {
            return c == 9 || c == 10 || c == 13 || c == 32;
        }

        private static boolean isLetter(int c) {
            return c >= 'a' && c <= 'z';
        }

        private static boolean isDigit(int c) {
            return c >= '0' && c <= '9';
        }

        private static boolean isSign(int c) {
            switch (c) {
                case ';': case ',': case '=': case '+': case '-': case '*': case '(': case ')':
                    return true;
                default:
                    return false;
            }
        }
    }

    /** What one 'let' or 'box' tells. */
    private static final class Tell {
        private boolean isBox;
        private int number;
        private int nameToken;
        private long name;
        private int worth;
        private int fresh;
        private int wide;
        private int high;
        private int needs;
        private int codeStart;
        private int codeEnd;
    }

    /** A text that was read: its tells, and their E's as steps on a stack, operands first. */
    private static final class Script {
        private final Tell[] tells = new Tell[MOST_TELLS];
        private final int[] boxTells = new int[MOST_BOXES];
        private final int[] letTells = new int[MOST_LETS];
        private final int[] steps = new int[MOST_TOKENS];
        private final int[] operands = new int[MOST_TOKENS];
        private final long[] letValues = new long[MOST_LETS];
        private final long[] stack = new long[MOST_TOKENS];
        private long[] sourceValues;
        private int tellCount;
        private int boxCount;
        private int letCount;
        private int stepCount;
        private int top;

        Script() {
            for (int n = 0; n < tells.length; n++) {
                tells[n] = new Tell();
            }
            sourceValues = new long[SOURCES];
        }

        void clear() {
            tellCount = 0;
            boxCount = 0;
            letCount = 0;
            stepCount = 0;
        }

        /** Null if there is no room for one more. */
        Tell openTell(boolean isBox) {
            int sortCount = isBox ? boxCount : letCount;
            int sortRoom = isBox ? boxTells.length : letTells.length;
            if (tellCount >= tells.length || sortCount >= sortRoom) {
                return null;
            }
            Tell tell = tells[tellCount];
            tell.isBox = isBox;
            tell.number = sortCount;
            if (isBox) {
                boxTells[boxCount] = tellCount;
                boxCount++;
            } else {
                letTells[letCount] = tellCount;
                letCount++;
            }
            tellCount++;
            return tell;
        }

        void addStep(int step, int operand) {
            if (stepCount < steps.length) {
                steps[stepCount] = step;
                operands[stepCount] = operand;
                stepCount++;
            }
        }

        /** A let names only lets ahead of it, so one pass in their order knows them all. */
        void evaluateLets(long[] values) {
            sourceValues = values;
            for (int k = 0; k < letCount; k++) {
                Tell tell = tells[letTells[k]];
                letValues[k] = evaluate(tell.codeStart, tell.codeEnd);
            }
        }

        long evaluate(int start, int end) {
            top = 0;
            for (int i = Math.max(start, 0); i < end && i < stepCount; i++) {
                doStep(steps[i], operands[i]);
            }
            return pop();
        }

        private void doStep(int step, int operand) {
            if (step == INT) {
                push(operand);
            } else if (step == SOURCE) {
                push(operand >= 0 && operand < sourceValues.length ? sourceValues[operand] : 0);
            } else if (step == LET) {
                push(operand >= 0 && operand < letValues.length ? letValues[operand] : 0);
            } else {
                long second = pop();
                long first = pop();
                push(combine(step, first, second));
            }
        }

        private static long combine(int step, long first, long second) {
            switch (step) {
                case '+': return first + second;
                case '-': return first - second;
                case '*': return first * second;
                case MIN: return Math.min(first, second);
                default: return Math.max(first, second);
            }
        }

        private void push(long value) {
            if (top < stack.length) {
                stack[top] = value;
                top++;
            }
        }

        private long pop() {
            if (top <= 0) {
                return 0;
            }
            top--;
            return stack[top];
        }
    }

    /** Reads a tape into a script, first its syntax and room, then what it means. */
    private static final class Parser {
        private static final long FIRST_SOURCE_NAME = 0x7330L;
        // Where a box's INTs stand, counted in tokens from its NAME.
        private static final int WORTH_TOKEN = 2;
        private static final int FRESH_TOKEN = 4;
        private static final int WIDE_TOKEN = 6;
        private static final int HIGH_TOKEN = 7;

        private final Tokens tokens = new Tokens();
        private Script draft;
        private int cursor;
        private int fault;
        private int faultPlace = NONE;

        int parse(Tape tape, Script into) {
            draft = into;
            draft.clear();
            tokens.split(tape);
            cursor = 0;
            fault = 0;
            faultPlace = NONE;
            for (int n = 0; n <= MOST_TELLS && fault == 0 && kind() != END; n++) {
                parseTell();
            }
            for (int n = 0; n < draft.tellCount && fault == 0; n++) {
                checkTell(n);
            }
            return fault;
        }

        /** Faults are met in the order of their places, so only the first one counts. */
        private void fail(int number, int token) {
            if (fault == 0) {
                fault = number;
                faultPlace = tokens.placeAt(token);
            }
        }

        private int kind() {
            return tokens.kindAt(cursor);
        }

        /** Goes past a token of this kind; syntax comes first, as the lesser fault of one place. */
        private void accept(int kind) {
            if (kind() != kind) {
                fail(SYNTAX_FAULT, cursor);
            } else if (cursor >= MOST_TOKENS) {
                fail(ROOM_FAULT, cursor);
            } else if (fault == 0) {
                cursor++;
            }
        }

        private void parseTell() {
            int word = kind();
            if (word != LET && word != BOX) {
                fail(SYNTAX_FAULT, cursor);
                return;
            }
            Tell tell = draft.openTell(word == BOX);
            if (tell == null) {
                fail(ROOM_FAULT, cursor);
                return;
            }
            accept(word);
            tell.nameToken = cursor;
            accept(NAME);
            if (tell.isBox) {
                parseNumbers();
            }
            accept('=');
            tell.codeStart = draft.stepCount;
            parseSum(0);
            tell.codeEnd = draft.stepCount;
            accept(';');
        }

        private void parseNumbers() {
            accept(WORTH);
            accept(INT);
            accept(FRESH);
            accept(INT);
            accept(SIZE);
            accept(INT);
            accept(INT);
        }

        private void parseSum(int depth) {
            parseProduct(depth);
            for (int n = 0; n < MOST_TOKENS && fault == 0 && (kind() == '+' || kind() == '-'); n++) {
                int sign = kind();
                accept(sign);
                parseProduct(depth);
                draft.addStep(sign, 0);
            }
        }

        private void parseProduct(int depth) {
            parseUnit(depth);
            for (int n = 0; n < MOST_TOKENS && fault == 0 && kind() == '*'; n++) {
                accept('*');
                parseUnit(depth);
                draft.addStep('*', 0);
            }
        }

        private void parseUnit(int depth) {
            if (fault != 0) {
                return;
            }
            int kind = kind();
            switch (kind) {
                case INT:
                    draft.addStep(INT, (int) tokens.valueAt(cursor));
                    accept(INT);
                    break;
                case NAME:
                    draft.addStep(NAME, cursor);
                    accept(NAME);
                    break;
                case MIN: case MAX:
                    accept(kind);
                    parsePair(depth);
                    draft.addStep(kind, 0);
                    break;
                case '(':
                    openBracket(depth);
                    parseInside(depth);
                    accept(')');
                    break;
                default:
                    fail(SYNTAX_FAULT, cursor);
                    break;
            }
        }

        private void parsePair(int depth) {
            openBracket(depth);
            parseInside(depth);
            accept(',');
            parseInside(depth);
            accept(')');
        }

        private void openBracket(int depth) {
            if (kind() == '(' && depth >= DEEPEST) {
                fail(ROOM_FAULT, cursor);
            } else {
                accept('(');
            }
        }

        private void parseInside(int depth) {
            if (fault == 0 && depth < DEEPEST) {
                parseSum(depth + 1);
            }
        }

        private void checkTell(int n) {
            Tell tell = draft.tells[n];
            tell.name = tokens.valueAt(tell.nameToken);
            if (sourceNamed(tell.name) != NONE || isToldAhead(n, tell.name)) {
                fail(TWICE_FAULT, tell.nameToken);
            }
            int unknown = resolveNames(n);
            if (tell.isBox) {
                if (tell.needs == 0 && unknown == NONE) {
                    fail(WRONG_FAULT, tell.nameToken);
                }
                tell.worth = checkedInt(tell.nameToken + WORTH_TOKEN, 0, 1000);
                tell.fresh = checkedInt(tell.nameToken + FRESH_TOKEN, 1, 6);
                tell.wide = checkedInt(tell.nameToken + WIDE_TOKEN, 1, 8);
                tell.high = checkedInt(tell.nameToken + HIGH_TOKEN, 1, 6);
            }
            if (unknown != NONE) {
                fail(NAME_FAULT, unknown);
            }
        }

        private int checkedInt(int token, int least, int most) {
            int value = (int) tokens.valueAt(token);
            if (value < least || value > most) {
                fail(WRONG_FAULT, token);
            }
            return value;
        }

        /** Gathers the tell's sources; answers the token of its first unknown NAME, or NONE. */
        private int resolveNames(int n) {
            Tell tell = draft.tells[n];
            tell.needs = 0;
            int unknown = NONE;
            for (int i = tell.codeStart; i < tell.codeEnd && i < draft.steps.length; i++) {
                if (draft.steps[i] == NAME && !resolveStep(n, i) && unknown == NONE) {
                    unknown = draft.operands[i];
                }
            }
            return unknown;
        }

        private boolean resolveStep(int n, int i) {
            Tell tell = draft.tells[n];
            long name = tokens.valueAt(draft.operands[i]);
            int source = sourceNamed(name);
            if (source != NONE) {
                draft.steps[i] = SOURCE;
                draft.operands[i] = source;
                tell.needs |= 1 << source;
                return true;
            }
            for (int m = 0; m < n; m++) {
                Tell ahead = draft.tells[m];
                if (!ahead.isBox && ahead.name == name) {
                    draft.steps[i] = LET;
                    draft.operands[i] = ahead.number;
                    tell.needs |= ahead.needs;
                    return true;
                }
            }
            return false;
        }

        private boolean isToldAhead(int n, long name) {
            for (int m = 0; m < n; m++) {
                if (draft.tells[m].name == name) {
                    return true;
                }
            }
            return false;
        }

        private static int sourceNamed(long name) {
            long source = name - FIRST_SOURCE_NAME;
            return source >= 0 && source < SOURCES ? (int) source : NONE;
        }
    }

    /** Costs, told values and downs, and what is asked and spent. */
    private static final class Sources {
        private static final int MOST_FACTS = 400;
        private static final int MOST_DOWNS = 40;

        private final int[] costs = new int[SOURCES];
        private final int[] factSources = new int[MOST_FACTS];
        private final int[] factTicks = new int[MOST_FACTS];
        private final int[] factValues = new int[MOST_FACTS];
        private final int[] downSources = new int[MOST_DOWNS];
        private final int[] downStarts = new int[MOST_DOWNS];
        private final int[] downEnds = new int[MOST_DOWNS];
        private final int[] latestTicks = new int[SOURCES];
        private final long[] latestValues = new long[SOURCES];
        private int factCount;
        private int downCount;
        private int limit = 60;
        private int asked;
        private int spent;
        private int spentInAll;

        Sources() {
            for (int s = 0; s < SOURCES; s++) {
                costs[s] = 1;
            }
        }

        int addFact(int source, int t, int v) {
            if (factCount >= MOST_FACTS) {
                return NONE;
            }
            factSources[factCount] = source;
            factTicks[factCount] = t;
            factValues[factCount] = v;
            factCount++;
            return factCount - 1;
        }

        boolean addDown(int source, int a, int b) {
            if (downCount >= MOST_DOWNS) {
                return false;
            }
            downSources[downCount] = source;
            downStarts[downCount] = a;
            downEnds[downCount] = b;
            downCount++;
            return true;
        }

        int downAt(int t) {
            int set = 0;
            for (int n = 0; n < downCount; n++) {
                if (downStarts[n] <= t && t < downEnds[n]) {
                    set |= 1 << downSources[n];
                }
            }
            return set;
        }

        /** The row is the object's own and is filled anew by each call. */
        long[] valuesAt(int t) {
            for (int s = 0; s < SOURCES; s++) {
                latestTicks[s] = NONE;
                latestValues[s] = 0;
            }
            for (int n = 0; n < factCount; n++) {
                int source = factSources[n];
                if (factTicks[n] <= t && factTicks[n] >= latestTicks[source]) {
                    latestTicks[source] = factTicks[n];
                    latestValues[source] = factValues[n];
                }
            }
            return latestValues;
        }

        int costOf(int set) {
            int sum = 0;
            for (int s = 0; s < SOURCES; s++) {
                if ((set >> s & 1) != 0) {
                    sum += costs[s];
                }
            }
            return sum;
        }

        /** Asks a set now; false, and nothing is asked, if that would be above the budget. */
        boolean pay(int set) {
            int more = costOf(set & ~asked);
            if (more > 0 && spent + more > limit) {
                return false;
            }
            asked |= set;
            spent += more;
            spentInAll += more;
            return true;
        }

        void startTick() {
            asked = 0;
            spent = 0;
        }
    }

    /** A box of the wall, with what it showed at the end of each tick up to now. */
    private static final class Box {
        private int worth;
        private int fresh;
        private int wide;
        private int high;
        private int needs;
        private int codeStart;
        private int codeEnd;
        private int looks;
        private int lastLook;
        private int renewals;
        private int fixedRow;
        private int fixedColumn;
        private final int[] renewedBy = new int[TICKS];
        private final long[] shown = new long[TICKS];

        void become(Tell tell, int now) {
            worth = tell.worth;
            fresh = tell.fresh;
            wide = tell.wide;
            high = tell.high;
            needs = tell.needs;
            codeStart = tell.codeStart;
            codeEnd = tell.codeEnd;
            looks = 0;
            lastLook = NONE;
            renewals = 0;
            fixedRow = NONE;
            fixedColumn = NONE;
            for (int t = 0; t <= now && t < TICKS; t++) {
                renewedBy[t] = NONE;
                shown[t] = 0;
            }
        }

        void renew(int now, long value) {
            renewedBy[now] = now;
            shown[now] = value;
            renewals++;
        }

        void carryInto(int now) {
            renewedBy[now] = renewedBy[now - 1];
            shown[now] = shown[now - 1];
        }

        int ageAt(int t) {
            return renewedBy[t] == NONE ? NONE : t - renewedBy[t];
        }

        boolean isStale(int now) {
            int age = ageAt(now);
            return age == NONE || age > fresh;
        }

        boolean isFixed() {
            return fixedRow != NONE;
        }

        boolean isFixedOver(int row, int column, Box other) {
            return isFixed()
                && row < fixedRow + high && fixedRow < row + other.high
                && column < fixedColumn + wide && fixedColumn < column + other.wide;
        }
    }

    /** The plan at hand; none is, while it has no ticks. */
    private static final class Plan {
        private final int[] sets = new int[MOST_PLANNED_TICKS];
        private int start;
        private int ticks;
        private int leftBoxes;
    }

    /**
     * Finds plans tick by tick over what each kept box has left: its LEASE, the number of ticks,
     * from the one at hand on, that it gets through without being renewed. For each combination of
     * leases the best way to get there is enough, as what follows depends on nothing else.
     */
    private static final class Planner {
        private static final long NO_WAY = Long.MAX_VALUE;
        private static final int MOST_OPTIONS = 16;
        private static final int OPTION_BITS = 4;
        private static final int COST_SHIFT = OPTION_BITS * MOST_PLANNED_TICKS;
        // A lease behind the first tick is 0 .. 6, of four boxes.
        private static final int MOST_CODES = 7 * 7 * 7 * 7;

        private Sources sources;
        private final Box[] chosen = new Box[MOST_PLANNED_BOXES];
        private final int[] chosenNumbers = new int[MOST_PLANNED_BOXES];
        private final Box[] kept = new Box[MOST_PLANNED_BOXES];
        private final int[] leases = new int[MOST_PLANNED_BOXES];
        private final int[] weights = new int[MOST_PLANNED_BOXES];
        private final int[] optionSets = new int[MOST_OPTIONS * MOST_PLANNED_TICKS];
        private final int[] optionCosts = new int[MOST_OPTIONS];
        private final int[] optionRenews = new int[MOST_OPTIONS];
        // A way is a number: its cost, then the option of each tick, so that the least is the best.
        private long[] ways = new long[MOST_CODES];
        private long[] nextWays = new long[MOST_CODES];
        private int chosenCount;
        private int keptCount;
        private int optionCount;
        private int codeCount;
        private int start;
        private int ticks;

        void begin(Sources asking, int now, int h) {
            sources = asking;
            start = now;
            ticks = h;
            chosenCount = 0;
        }

        void choose(Box box, int number) {
            if (chosenCount < chosen.length) {
                chosen[chosenCount] = box;
                chosenNumbers[chosenCount] = number;
                chosenCount++;
            }
        }

        /** Tries to leave one set of boxes after the other, the one that is to be left first first. */
        int makePlan(Plan plan) {
            int subsets = 1 << chosenCount;
            int tried = 0;
            for (int n = 0; n < subsets; n++) {
                int leave = nextToLeave(subsets, tried);
                tried |= 1 << leave;
                long way = findWay(leave);
                if (way != NO_WAY) {
                    return writePlan(plan, leave, way);
                }
            }
            return NONE;
        }

        private int nextToLeave(int subsets, int tried) {
            int next = NONE;
            for (int set = 0; set < subsets; set++) {
                if ((tried >> set & 1) == 0 && (next == NONE || isLeftBefore(set, next))) {
                    next = set;
                }
            }
            return Math.max(next, 0);
        }

        private boolean isLeftBefore(int set, int other) {
            int worths = Integer.compare(worthOf(set), worthOf(other));
            if (worths != 0) {
                return worths < 0;
            }
            int sizes = Integer.compare(Integer.bitCount(set), Integer.bitCount(other));
            if (sizes != 0) {
                return sizes < 0;
            }
            return (set & Integer.lowestOneBit(set ^ other)) != 0;
        }

        private int worthOf(int set) {
            int sum = 0;
            for (int n = 0; n < chosenCount; n++) {
                if ((set >> n & 1) != 0) {
                    sum += chosen[n].worth;
                }
            }
            return sum;
        }

        private int writePlan(Plan plan, int leave, long way) {
            plan.start = start;
            plan.ticks = ticks;
            plan.leftBoxes = 0;
            for (int n = 0; n < chosenCount; n++) {
                if ((leave >> n & 1) != 0) {
                    plan.leftBoxes |= 1 << chosenNumbers[n];
                }
            }
            for (int i = 0; i < ticks && i < plan.sets.length; i++) {
                int option = (int) (way >> optionShift(i)) & (MOST_OPTIONS - 1);
                plan.sets[i] = optionSets[i * MOST_OPTIONS + option];
            }
            return (int) (way >> COST_SHIFT);
        }

        private static int optionShift(int i) {
            return OPTION_BITS * (MOST_PLANNED_TICKS - 1 - i);
        }

        private long findWay(int leave) {
            keepAllBut(leave);
            clearNextWays();
            listOptions(0);
            spread(0, 0);
            swapWays();
            for (int i = 1; i < ticks; i++) {
                clearNextWays();
                listOptions(i);
                for (int code = 0; code < codeCount; code++) {
                    if (ways[code] != NO_WAY) {
                        unpackLeases(code);
                        spread(i, ways[code]);
                    }
                }
                swapWays();
            }
            // Behind the last tick every lease counts 0.
            return ways[0];
        }

        private void keepAllBut(int leave) {
            keptCount = 0;
            codeCount = 1;
            for (int n = 0; n < chosenCount; n++) {
                if ((leave >> n & 1) == 0) {
                    Box box = chosen[n];
                    kept[keptCount] = box;
                    leases[keptCount] = firstLease(box);
                    weights[keptCount] = codeCount;
                    codeCount *= Math.min(box.fresh, ticks - 1) + 1;
                    keptCount++;
                }
            }
        }

        private int firstLease(Box box) {
            int age = box.ageAt(start);
            if (age == NONE || age > box.fresh) {
                return 0;
            }
            return Math.min(box.fresh - age + 1, ticks);
        }

        private void clearNextWays() {
            for (int code = 0; code < codeCount && code < nextWays.length; code++) {
                nextWays[code] = NO_WAY;
            }
        }

        private void swapWays() {
            long[] reached = nextWays;
            nextWays = ways;
            ways = reached;
        }

        private void unpackLeases(int code) {
            int rest = code;
            for (int b = keptCount - 1; b >= 0; b--) {
                int weight = Math.max(weights[b], 1);
                leases[b] = rest / weight;
                rest -= leases[b] * weight;
            }
        }

        /**
         * Lists, least set first, the sets of which each source serves a box that gets renewed:
         * any other set has a cheaper one that renews as much, for all costs are above 0.
         */
        private void listOptions(int i) {
            int asked = i == 0 ? sources.asked : 0;
            int spent = i == 0 ? sources.spent : 0;
            int down = sources.downAt(start + i);
            int askable = needsOf((1 << keptCount) - 1) & ~asked & ~down;
            optionCount = 0;
            for (int set = 0; set <= askable; set++) {
                if ((set & ~askable) != 0) {
                    continue;
                }
                int renews = renewedWith((set | asked) & ~down);
                if ((needsOf(renews) & ~asked) != set) {
                    continue;
                }
                int price = sources.costOf(set);
                if (price == 0 || spent + price <= sources.limit) {
                    addOption(i, set, price, renews);
                }
            }
        }

        private void addOption(int i, int set, int price, int renews) {
            if (optionCount < MOST_OPTIONS) {
                optionSets[i * MOST_OPTIONS + optionCount] = set;
                optionCosts[optionCount] = price;
                optionRenews[optionCount] = renews;
                optionCount++;
            }
        }

        private int needsOf(int keptSet) {
            int needs = 0;
            for (int b = 0; b < keptCount; b++) {
                if ((keptSet >> b & 1) != 0) {
                    needs |= kept[b].needs;
                }
            }
            return needs;
        }

        private int renewedWith(int answering) {
            int renews = 0;
            for (int b = 0; b < keptCount; b++) {
                if ((kept[b].needs & ~answering) == 0) {
                    renews |= 1 << b;
                }
            }
            return renews;
        }

        /** Goes on from the leases at hand by each option that renews all boxes that are due. */
        private void spread(int i, long way) {
            int due = 0;
            for (int b = 0; b < keptCount; b++) {
                if (leases[b] == 0) {
                    due |= 1 << b;
                }
            }
            for (int n = 0; n < optionCount; n++) {
                if ((due & ~optionRenews[n]) != 0) {
                    continue;
                }
                int code = codeBehind(i, optionRenews[n]);
                long longer = way + ((long) optionCosts[n] << COST_SHIFT) + ((long) n << optionShift(i));
                if (code >= 0 && code < codeCount && longer < nextWays[code]) {
                    nextWays[code] = longer;
                }
            }
        }

        /** A lease beyond the last tick counts as one up to it, which leaves fewer codes. */
        private int codeBehind(int i, int renews) {
            int code = 0;
            for (int b = 0; b < keptCount; b++) {
                boolean renewed = (renews >> b & 1) != 0;
                int lease = renewed ? Math.min(kept[b].fresh, ticks - 1 - i) : leases[b] - 1;
                code += lease * weights[b];
            }
            return code;
        }
    }

    /** Lays the boxes in all orders that may be best, the first order first. */
    private static final class Laying {
        // 36 rows hold all that is fixed, 36 more all that is not.
        private static final int WALL_ROWS = 80;

        private Box[] boxes;
        private final int[] taken = new int[WALL_ROWS];
        private final int[] rows = new int[MOST_BOXES];
        private final int[] columns = new int[MOST_BOXES];
        private final int[] bestRows = new int[MOST_BOXES];
        private final int[] bestColumns = new int[MOST_BOXES];
        private int boxCount;
        private int wallColumns;
        private int bestHeight;
        private int bestSum;

        int arrange(Box[] all, int count, int w) {
            boxes = all;
            boxCount = count;
            wallColumns = w;
            bestHeight = Integer.MAX_VALUE;
            bestSum = Integer.MAX_VALUE;
            for (int row = 0; row < taken.length; row++) {
                taken[row] = 0;
            }
            int free = 0;
            int height = 0;
            int sum = 0;
            for (int k = 0; k < boxCount; k++) {
                Box box = boxes[k];
                if (!box.isFixed()) {
                    free |= 1 << k;
                    continue;
                }
                rows[k] = box.fixedRow;
                columns[k] = box.fixedColumn;
                flip(k);
                height = Math.max(height, box.fixedRow + box.high);
                sum += box.worth * box.fixedRow;
            }
            layFree(free, height, sum);
            return bestHeight;
        }

        /** Height and sum only grow, so an order that is no better by now can be given up. */
        private void layFree(int free, int height, int sum) {
            if (height > bestHeight || height == bestHeight && sum >= bestSum) {
                return;
            }
            if (free == 0) {
                keepAsBest(height, sum);
                return;
            }
            for (int k = 0; k < boxCount; k++) {
                if ((free >> k & 1) == 0 || !findRoom(k)) {
                    continue;
                }
                Box box = boxes[k];
                flip(k);
                layFree(free & ~(1 << k), Math.max(height, rows[k] + box.high), sum + box.worth * rows[k]);
                flip(k);
            }
        }

        private void keepAsBest(int height, int sum) {
            bestHeight = height;
            bestSum = sum;
            for (int k = 0; k < boxCount; k++) {
                bestRows[k] = rows[k];
                bestColumns[k] = columns[k];
            }
        }

        /** Rooms that reach beyond the best height are not looked for, as no order with one counts. */
        private boolean findRoom(int k) {
            int high = boxes[k].high;
            int wide = boxes[k].wide;
            int end = Math.min(taken.length, bestHeight);
            for (int row = 0; row + high <= end; row++) {
                int full = 0;
                for (int r = row; r < row + high; r++) {
                    full |= taken[r];
                }
                int bits = columnBits(0, wide);
                for (int column = 0; column + wide <= wallColumns; column++) {
                    if ((full & bits << column) == 0) {
                        rows[k] = row;
                        columns[k] = column;
                        return true;
                    }
                }
            }
            return false;
        }

        /** Takes the box's room, or gives it free again. */
        private void flip(int k) {
            int bits = columnBits(columns[k], boxes[k].wide);
            for (int r = rows[k]; r < rows[k] + boxes[k].high && r < taken.length; r++) {
                taken[r] ^= bits;
            }
        }

        private static int columnBits(int column, int wide) {
            return (1 << wide) - 1 << column;
        }
    }
}
