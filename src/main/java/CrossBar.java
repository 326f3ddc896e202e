import java.util.Arrays;

/** A crossbar exchange; ../shared/DOC.md says what each call answers. */
public final class CrossBar {
    private static final int MOST_BYTES = 2000;
    private static final int MOST_TOKENS = 400;
    private static final int MOST_LETTERS = 10;
    private static final int MOST_DIGITS = 6;
    private static final int DEEPEST = 8;
    private static final int MOST_SWITCHES = 6;
    private static final int MOST_LINES = 10;
    private static final int MOST_TRUNKS = 10;
    private static final int MOST_SHUTS = 12;
    private static final int MOST_BARS = 9;
    private static final int MOST_WIRES = 9;
    private static final int MOST_COST = 99;
    private static final int MOST_MARKERS = 4;
    private static final int MOST_TICKS = 60;
    private static final int TICKS_RUNG = 12;

    private static final int IDLE = 0;
    private static final int DIALS = 1;
    private static final int WAITS = 2;
    private static final int CALLS = 3;
    private static final int RUNG = 4;
    private static final int TALKS = 5;
    private static final int HEARS_BUSY = 6;
    private static final int HEARS_NOTHING = 7;

    private static final int NONE = -1;
    private static final Kind[] KINDS = Kind.values();

    private final Tape tape = new Tape();
    private final Tokens tokens = new Tokens(tape);
    private final Plan draft = new Plan();
    private final Grammar grammar = new Grammar(tokens, draft.tests);
    private final Meaning meaning = new Meaning(tokens, draft);
    private final Plan plan = new Plan();
    private final Exchange now = new Exchange(plan);
    private final Exchange ahead = new Exchange(plan);
    private final Flow flow = new Flow(plan);
    private int wrongAt = NONE;

    public CrossBar() {
    }

    // ---- the language

    public int feed(int a, int b, int c, int d, int e) throws IllegalStateException {
        if (!tape.hasRoomForFive()) {
            throw new IllegalStateException("the tape would be too long");
        }
        tape.append(a);
        tape.append(b);
        tape.append(c);
        tape.append(d);
        tape.append(e);
        return tape.size;
    }

    public int trim(int n) throws IllegalArgumentException {
        if (n < 0 || n > tape.size) {
            throw new IllegalArgumentException("the tape has not so many bytes");
        }
        tape.size = n;
        return n;
    }

    public int teach() {
        tokens.read();
        draft.clear();
        int error = grammar.isPlan() ? meaning.error() : 1;
        if (error == 0) {
            wrongAt = NONE;
            plan.copyFrom(draft);
            now.beginAnew();
        } else {
            wrongAt = tokens.startOfNext();
        }
        tape.size = 0;
        return error;
    }

    public int errorAt() {
        return wrongAt;
    }

    public int count(int what) throws IndexOutOfBoundsException {
        switch (what) {
            case 0: return now.tick;
            case 1: return plan.switches;
            case 2: return plan.lines;
            case 3: return plan.trunks;
            case 4: return plan.shuts;
            case 5: return now.connections();
            case 6: return now.talks();
            case 7: return now.waiting;
            case 8: return now.markers;
            case 9: return now.paidByAll();
            case 10: return tape.size;
            default: throw new IndexOutOfBoundsException("nothing of this number is counted");
        }
    }

    // ---- by hand

    public int setMarkers(int markers) throws IllegalArgumentException {
        if (markers < 1 || markers > MOST_MARKERS) {
            throw new IllegalArgumentException("there are 1 to 4 markers");
        }
        int before = now.markers;
        now.markers = markers;
        return before;
    }

    public int lift(int line) throws IndexOutOfBoundsException, IllegalStateException {
        needLine(line);
        if (now.does[line] != IDLE && now.does[line] != RUNG) {
            throw new IllegalStateException("the line is neither idle nor rung");
        }
        return now.liftLine(line);
    }

    public int dial(int line, int digit)
            throws IndexOutOfBoundsException, IllegalArgumentException, IllegalStateException {
        needLine(line);
        if (digit < 0 || digit > 9) {
            throw new IllegalArgumentException("a digit is 0 to 9");
        }
        if (now.does[line] != DIALS) {
            throw new IllegalStateException("the line does not dial");
        }
        return now.dialDigit(line, digit);
    }

    public int hang(int line) throws IndexOutOfBoundsException, IllegalStateException {
        needLine(line);
        if (now.does[line] == IDLE || now.does[line] == RUNG) {
            throw new IllegalStateException("the line is idle or rung");
        }
        return now.hangUp(line);
    }

    // ---- what is there

    public int line(int line, int what) throws IndexOutOfBoundsException {
        needLine(line);
        switch (what) {
            case 0: return now.does[line];
            case 1: return plan.homes[line];
            case 2: return now.others[line];
            case 3: return now.digits[line];
            case 4: return now.called[line];
            case 5: return now.placeInQueue(line);
            case 6: return now.paid[line];
            default: throw new IndexOutOfBoundsException("a line tells nothing of this number");
        }
    }

    public int frame(int frame, int what) throws IndexOutOfBoundsException {
        needSwitch(frame);
        switch (what) {
            case 0: return plan.bars[frame];
            case 1: return now.heldBars(frame);
            case 2: return plan.linesIn(1 << frame);
            case 3: return plan.trunksAt(frame);
            default: throw new IndexOutOfBoundsException("a switch tells nothing of this number");
        }
    }

    public int trunk(int trunk, int what) throws IndexOutOfBoundsException {
        needTrunk(trunk);
        switch (what) {
            case 0: return plan.froms[trunk];
            case 1: return plan.tos[trunk];
            case 2: return plan.wires[trunk];
            case 3: return now.heldWires(trunk);
            case 4: return plan.costs[trunk];
            case 5: return has(plan.tests.shutTrunks(now), trunk) ? 1 : 0;
            default: throw new IndexOutOfBoundsException("a trunk tells nothing of this number");
        }
    }

    public int wire(int line, int what) throws IndexOutOfBoundsException {
        needLine(line);
        if (what < 0 || what > 3) {
            throw new IndexOutOfBoundsException("a connection tells nothing of this number");
        }
        int caller = now.callerOf(line);
        if (!plan.hasLine(caller)) {
            return 0;
        }
        switch (what) {
            case 0: return now.waySwitches[caller];
            case 1: return now.wayCosts[caller];
            case 2: return now.rang[caller];
            default: return now.talked[caller];
        }
    }

    // ---- ways

    public int way(int a, int b) throws IndexOutOfBoundsException {
        needLine(a);
        needLine(b);
        now.lookForWay(a, b);
        return now.ways.cost;
    }

    public int through(int a, int b) throws IndexOutOfBoundsException {
        needLine(a);
        needLine(b);
        now.lookForWay(a, b);
        return now.ways.switches;
    }

    public int most(int a, int b) throws IndexOutOfBoundsException, IllegalArgumentException {
        needTwoSwitches(a, b);
        return flow.greatest(a, b, NONE);
    }

    public int parts(int trunk) throws IndexOutOfBoundsException {
        needTrunk(trunk);
        return plan.pairsParted(trunk);
    }

    public int advise(int a, int b) throws IndexOutOfBoundsException, IllegalArgumentException {
        needTwoSwitches(a, b);
        int most = flow.greatest(a, b, NONE);
        for (int t = 0; t < plan.trunks; t++) {
            if (flow.greatest(a, b, t) > most) {
                return t;
            }
        }
        return NONE;
    }

    // ---- ticks

    public int pass(int ticks) throws IllegalArgumentException {
        needTicks(ticks);
        int made = 0;
        for (int i = 0; i < ticks; i++) {
            made += now.goOn();
        }
        return made;
    }

    public int foresee(int ticks, int what) throws IllegalArgumentException, IndexOutOfBoundsException {
        needTicks(ticks);
        if (what < 0 || what > 3) {
            throw new IndexOutOfBoundsException("nothing of this number is foreseen");
        }
        ahead.copyFrom(now);
        int made = 0;
        for (int i = 0; i < ticks; i++) {
            made += ahead.goOn();
        }
        switch (what) {
            case 0: return made;
            case 1: return ahead.connections();
            case 2: return ahead.linesThatDo(HEARS_BUSY) + ahead.linesThatDo(HEARS_NOTHING);
            default: return ahead.paidByAll() - now.paidByAll();
        }
    }

    public double mean() {
        return plan.lines > 0 ? (double) now.paidByAll() / plan.lines : 0.0;
    }

    public long digest() {
        long d = 757;
        for (int what = 0; what <= 10; what++) {
            d = d * 31 + count(what);
        }
        for (int l = 0; l < plan.lines; l++) {
            d = digestOfLine(d, l);
        }
        for (int s = 0; s < plan.switches; s++) {
            for (int what = 0; what <= 3; what++) {
                d = d * 31 + frame(s, what);
            }
        }
        for (int t = 0; t < plan.trunks; t++) {
            for (int what = 0; what <= 5; what++) {
                d = d * 31 + trunk(t, what);
            }
            d = d * 31 + parts(t);
        }
        return d;
    }

    private long digestOfLine(long before, int line) {
        long d = before;
        for (int what = 0; what <= 6; what++) {
            d = d * 31 + line(line, what);
        }
        for (int what = 0; what <= 3; what++) {
            d = d * 31 + wire(line, what);
        }
        return d;
    }

    private void needLine(int line) {
        if (!plan.hasLine(line)) {
            throw new IndexOutOfBoundsException("there is no such line");
        }
    }

    private void needSwitch(int frame) {
        if (!plan.hasSwitch(frame)) {
            throw new IndexOutOfBoundsException("there is no such switch");
        }
    }

    private void needTwoSwitches(int a, int b) {
        needSwitch(a);
        needSwitch(b);
        if (a == b) {
            throw new IllegalArgumentException("both switches are the same");
        }
    }

    private void needTrunk(int trunk) {
        if (!plan.hasTrunk(trunk)) {
            throw new IndexOutOfBoundsException("there is no such trunk");
        }
    }

    private static void needTicks(int ticks) {
        if (ticks < 1 || ticks > MOST_TICKS) {
            throw new IllegalArgumentException("1 to 60 ticks can go by");
        }
    }

    private static boolean has(int set, int member) {
        return (set >> member & 1) == 1;
    }

    private static void copy(int[] from, int[] to) {
        System.arraycopy(from, 0, to, 0, Math.min(from.length, to.length));
    }

    private static void put(int[] row, int index, int value) {
        if (index >= 0 && index < row.length) {
            row[index] = value;
        }
    }

    /** What a token can be; those that are always written in the same way have this as their text. */
    private enum Kind {
        SWITCH("switch"), BARS("bars"), LINE("line"), AT("at"), DIALS("dials"), TRUNK("trunk"),
        FROM("from"), TO("to"), WIRES("wires"), COST("cost"), SHUT("shut"), WHEN("when"),
        TICK("tick"), TALKS("talks"), FREE("free"), LOAD("load"), IDLE("idle"),
        NOT("not"), AND("and"), OR("or"), MIN("min"), MAX("max"),
        OPEN("("), CLOSE(")"), OPEN_TEST("["), CLOSE_TEST("]"), SEMICOLON(";"), COMMA(","),
        PLUS("+"), MINUS("-"), TIMES("*"), DIVIDE("/"),
        LESS("<"), MORE(">"), EQUAL("="), AT_MOST("<="), AT_LEAST(">="),
        NAME(""), NUMBER(""), END(""), WRONG(""),
        /** The - in front of a value, where a test is reckoned; the token is a MINUS. */
        NEGATE("");

        final String text;

        Kind(String text) {
            this.text = text;
        }
    }

    /** The bytes that were fed. */
    private static final class Tape {
        final byte[] bytes = new byte[MOST_BYTES];
        int size;

        boolean hasRoomForFive() {
            return size + 20 <= MOST_BYTES;
        }

        void append(int number) {
            if (size < 0 || size + 4 > bytes.length) {
                return;
            }
            for (int i = 0; i < 4; i++) {
                bytes[size + i] = (byte) (number >> (24 - 8 * i));
            }
            size += 4;
        }

        /** The byte there, 0 to 255, or NONE behind the end. */
        int byteAt(int at) {
            return at >= 0 && at < size && at < bytes.length ? bytes[at] & 255 : NONE;
        }

        boolean isLetter(int at) {
            int b = byteAt(at);
            return b >= 'a' && b <= 'z';
        }

        boolean isDigit(int at) {
            int b = byteAt(at);
            return b >= '0' && b <= '9';
        }

        boolean isBlank(int at) {
            int b = byteAt(at);
            return b == ' ' || b == '\n';
        }

        boolean stands(String text, int at) {
            for (int i = 0; i < text.length(); i++) {
                if (byteAt(at + i) != text.charAt(i)) {
                    return false;
                }
            }
            return true;
        }
    }

    /** The tokens of the tape; the last one is END or WRONG, and only that one is. */
    private static final class Tokens {
        private final Tape tape;
        private final Kind[] kinds = new Kind[MOST_TOKENS + 1];
        private final int[] starts = new int[MOST_TOKENS + 1];
        private final int[] lengths = new int[MOST_TOKENS + 1];
        private final int[] meanings = new int[MOST_TOKENS + 1];
        /** Each name as a number, so that they can be compared and kept without the tape. */
        private final long[] names = new long[MOST_TOKENS + 1];
        private int count;
        /** The token that is looked at: the wrong one, as soon as there is an error. */
        int next;

        Tokens(Tape tape) {
            this.tape = tape;
            for (int i = 0; i < kinds.length; i++) {
                kinds[i] = Kind.WRONG;
            }
        }

        void read() {
            count = 0;
            int at = 0;
            for (int i = 0; i < kinds.length; i++) {
                at = afterBlanks(at);
                int length = lengthAt(at);
                Kind kind = kindAt(at, length);
                if (i == MOST_TOKENS && kind != Kind.END) {
                    kind = Kind.WRONG;
                }
                kinds[i] = kind;
                starts[i] = at;
                lengths[i] = length;
                meanings[i] = kind == Kind.NUMBER ? numberAt(at, length) : 0;
                names[i] = kind == Kind.NAME ? nameAt(at, length) : 0;
                count = i + 1;
                if (kind == Kind.END || kind == Kind.WRONG) {
                    return;
                }
                at += length;
            }
        }

        private int afterBlanks(int from) {
            int at = from;
            while (at < tape.size && tape.isBlank(at)) {
                at++;
            }
            return at;
        }

        private int lengthAt(int at) {
            int end = at;
            if (tape.isLetter(at)) {
                while (end < tape.size && (tape.isLetter(end) || tape.isDigit(end))) {
                    end++;
                }
            } else if (tape.isDigit(at)) {
                while (end < tape.size && tape.isDigit(end)) {
                    end++;
                }
            } else {
                end += tape.stands(Kind.AT_MOST.text, at) || tape.stands(Kind.AT_LEAST.text, at) ? 2 : 1;
            }
            return end - at;
        }

        private Kind kindAt(int at, int length) {
            if (at >= tape.size) {
                return Kind.END;
            }
            if (tape.isDigit(at)) {
                return length <= MOST_DIGITS ? Kind.NUMBER : Kind.WRONG;
            }
            if (tape.isLetter(at)) {
                return length <= MOST_LETTERS ? kindWithText(at, length, Kind.NAME) : Kind.WRONG;
            }
            return kindWithText(at, length, Kind.WRONG);
        }

        private Kind kindWithText(int at, int length, Kind otherwise) {
            for (Kind kind : KINDS) {
                if (kind.text.length() == length && tape.stands(kind.text, at)) {
                    return kind;
                }
            }
            return otherwise;
        }

        private int numberAt(int at, int length) {
            int number = 0;
            for (int i = at; i < at + length; i++) {
                number = number * 10 + tape.byteAt(i) - '0';
            }
            return number;
        }

        /** No byte counts as 0, so that names of different lengths are different, too. */
        private long nameAt(int at, int length) {
            long name = 0;
            for (int i = at; i < at + length; i++) {
                name = name * 37 + (tape.isDigit(i) ? tape.byteAt(i) - '0' + 1 : tape.byteAt(i) - 'a' + 11);
            }
            return name;
        }

        Kind kind(int token) {
            return token >= 0 && token < count && token < kinds.length ? kinds[token] : Kind.WRONG;
        }

        boolean take(Kind kind) {
            if (kind(next) != kind) {
                return false;
            }
            next++;
            return true;
        }

        /** The number that stands there, or what is told by its name, once this is known. */
        int meaning(int token) {
            return token >= 0 && token < meanings.length ? meanings[token] : 0;
        }

        int startOfNext() {
            return next >= 0 && next < starts.length ? starts[next] : NONE;
        }

        int lengthOfNext() {
            return next >= 0 && next < lengths.length ? lengths[next] : 0;
        }

        long nameOfNext() {
            return next >= 0 && next < names.length ? names[next] : 0;
        }

        void setMeaningOfNext(int meaning) {
            put(meanings, next, meaning);
        }
    }

    /** Finds error 1, and writes down what the tests have to reckon, with tokens in the place of what they mean. */
    private static final class Grammar {
        private final Tokens tokens;
        private final Tests tests;

        Grammar(Tokens tokens, Tests tests) {
            this.tokens = tokens;
            this.tests = tests;
        }

        boolean isPlan() {
            tokens.next = 0;
            for (int i = 0; i < MOST_TOKENS && !is(Kind.END); i++) {
                if (!part() || !tokens.take(Kind.SEMICOLON)) {
                    return false;
                }
            }
            return is(Kind.END);
        }

        private boolean is(Kind kind) {
            return tokens.kind(tokens.next) == kind;
        }

        private boolean takeBoth(Kind first, Kind second) {
            return tokens.take(first) && tokens.take(second);
        }

        private boolean part() {
            if (tokens.take(Kind.SWITCH)) {
                return tokens.take(Kind.NAME) && takeBoth(Kind.BARS, Kind.NUMBER);
            }
            if (tokens.take(Kind.LINE)) {
                return tokens.take(Kind.NAME) && takeBoth(Kind.AT, Kind.NAME) && takeBoth(Kind.DIALS, Kind.NUMBER);
            }
            if (tokens.take(Kind.TRUNK)) {
                return tokens.take(Kind.NAME) && takeBoth(Kind.FROM, Kind.NAME) && takeBoth(Kind.TO, Kind.NAME)
                    && takeBoth(Kind.WIRES, Kind.NUMBER) && takeBoth(Kind.COST, Kind.NUMBER);
            }
            if (tokens.take(Kind.SHUT)) {
                int trunk = tokens.next;
                return takeBoth(Kind.NAME, Kind.WHEN) && test(0) && tests.add(Kind.SHUT, trunk);
            }
            return false;
        }

        private boolean test(int depth) {
            boolean fits = both(depth);
            for (int i = 0; i < MOST_TOKENS && fits && is(Kind.OR); i++) {
                int sign = tokens.next++;
                fits = both(depth) && tests.add(Kind.OR, sign);
            }
            return fits;
        }

        private boolean both(int depth) {
            boolean fits = single(depth);
            for (int i = 0; i < MOST_TOKENS && fits && is(Kind.AND); i++) {
                int sign = tokens.next++;
                fits = single(depth) && tests.add(Kind.AND, sign);
            }
            return fits;
        }

        private boolean single(int depth) {
            int first = tokens.next;
            switch (tokens.kind(first)) {
                case NOT:
                    return depth < DEEPEST && tokens.take(Kind.NOT) && single(depth + 1)
                        && tests.add(Kind.NOT, first);
                case OPEN_TEST:
                    return depth < DEEPEST && tokens.take(Kind.OPEN_TEST) && test(depth + 1)
                        && tokens.take(Kind.CLOSE_TEST);
                case IDLE:
                    return takeBoth(Kind.IDLE, Kind.NAME) && tests.add(Kind.IDLE, first + 1);
                default:
                    if (!sum(depth)) {
                        return false;
                    }
                    int sign = tokens.next;
                    return takeComparison() && sum(depth) && tests.add(tokens.kind(sign), sign);
            }
        }

        private boolean takeComparison() {
            return tokens.take(Kind.LESS) || tokens.take(Kind.MORE) || tokens.take(Kind.EQUAL)
                || tokens.take(Kind.AT_MOST) || tokens.take(Kind.AT_LEAST);
        }

        private boolean sum(int depth) {
            boolean fits = product(depth);
            for (int i = 0; i < MOST_TOKENS && fits && (is(Kind.PLUS) || is(Kind.MINUS)); i++) {
                int sign = tokens.next++;
                fits = product(depth) && tests.add(tokens.kind(sign), sign);
            }
            return fits;
        }

        private boolean product(int depth) {
            boolean fits = value(depth);
            for (int i = 0; i < MOST_TOKENS && fits && (is(Kind.TIMES) || is(Kind.DIVIDE)); i++) {
                int sign = tokens.next++;
                fits = value(depth) && tests.add(tokens.kind(sign), sign);
            }
            return fits;
        }

        private boolean value(int depth) {
            int first = tokens.next;
            Kind kind = tokens.kind(first);
            switch (kind) {
                case NUMBER:
                case TICK:
                case TALKS:
                    return tokens.take(kind) && tests.add(kind, first);
                case FREE:
                case LOAD:
                    return takeBoth(kind, Kind.NAME) && tests.add(kind, first + 1);
                case MINUS:
                    return depth < DEEPEST && tokens.take(kind) && value(depth + 1)
                        && tests.add(Kind.NEGATE, first);
                case OPEN:
                    return depth < DEEPEST && tokens.take(kind) && sum(depth + 1) && tokens.take(Kind.CLOSE);
                case MIN:
                case MAX:
                    return tokens.take(kind) && depth < DEEPEST && tokens.take(Kind.OPEN) && sum(depth + 1)
                        && tokens.take(Kind.COMMA) && sum(depth + 1) && tokens.take(Kind.CLOSE)
                        && tests.add(kind, first);
                default:
                    return false;
            }
        }
    }

    /** Finds the errors 2 to 7 of tokens that are a plan, and draws the plan up. */
    private static final class Meaning {
        private final Tokens tokens;
        private final Plan plan;
        private final long[] switchNames = new long[MOST_SWITCHES];
        private final long[] lineNames = new long[MOST_LINES];
        private final long[] trunkNames = new long[MOST_TRUNKS];

        Meaning(Tokens tokens, Plan plan) {
            this.tokens = tokens;
            this.plan = plan;
        }

        /** The grammar lets the word ahead of a name or number tell what it has to be. */
        int error() {
            Kind ahead = Kind.END;
            int error = 0;
            for (int i = 0; i < MOST_TOKENS; i++) {
                tokens.next = i;
                Kind kind = tokens.kind(i);
                switch (kind) {
                    case SHUT: error = errorOfShut(); break;
                    case NAME: error = errorOfName(ahead); break;
                    case NUMBER: error = errorOfNumber(ahead); break;
                    default: break;
                }
                if (error != 0) {
                    return error;
                }
                ahead = kind;
            }
            plan.tests.settle(tokens);
            return 0;
        }

        private int errorOfShut() {
            if (plan.shuts >= MOST_SHUTS) {
                return 4;
            }
            plan.shuts++;
            return 0;
        }

        private int errorOfName(Kind ahead) {
            switch (ahead) {
                case SWITCH: return newSwitch();
                case LINE: return newLine();
                case TRUNK: return newTrunk();
                case AT: return oldSwitch(plan.homes, plan.lines - 1);
                case FROM: return oldSwitch(plan.froms, plan.trunks - 1);
                case TO: return otherSwitch(plan.trunks - 1);
                case LOAD: return oldName(switchNames, plan.switches);
                case SHUT:
                case FREE: return oldName(trunkNames, plan.trunks);
                case IDLE: return oldName(lineNames, plan.lines);
                default: return 0;
            }
        }

        private int newSwitch() {
            int error = newName(switchNames, plan.switches);
            if (error == 0) {
                plan.switches++;
            }
            return error;
        }

        private int newLine() {
            int error = newName(lineNames, plan.lines);
            if (error == 0) {
                plan.lines++;
            }
            return error;
        }

        private int newTrunk() {
            int error = newName(trunkNames, plan.trunks);
            if (error == 0) {
                plan.trunks++;
            }
            return error;
        }

        private int newName(long[] names, int told) {
            long name = tokens.nameOfNext();
            if (find(name, names, told) != NONE) {
                return 2;
            }
            if (told < 0 || told >= names.length) {
                return 4;
            }
            names[told] = name;
            return 0;
        }

        private int oldName(long[] names, int told) {
            int found = find(tokens.nameOfNext(), names, told);
            tokens.setMeaningOfNext(found);
            return found == NONE ? 3 : 0;
        }

        private int oldSwitch(int[] row, int index) {
            int error = oldName(switchNames, plan.switches);
            put(row, index, tokens.meaning(tokens.next));
            return error;
        }

        private int otherSwitch(int trunk) {
            int error = oldSwitch(plan.tos, trunk);
            if (error == 0 && plan.hasTrunk(trunk) && plan.tos[trunk] == plan.froms[trunk]) {
                return 7;
            }
            return error;
        }

        private static int find(long name, long[] names, int told) {
            for (int i = 0; i < told && i < names.length; i++) {
                if (names[i] == name) {
                    return i;
                }
            }
            return NONE;
        }

        private int errorOfNumber(Kind ahead) {
            int number = tokens.meaning(tokens.next);
            switch (ahead) {
                case BARS: return newSize(number, MOST_BARS, plan.bars, plan.switches - 1);
                case WIRES: return newSize(number, MOST_WIRES, plan.wires, plan.trunks - 1);
                case COST: return newSize(number, MOST_COST, plan.costs, plan.trunks - 1);
                case DIALS: return newNumber(number, tokens.lengthOfNext(), plan.lines - 1);
                default: return 0;
            }
        }

        private static int newSize(int size, int most, int[] row, int index) {
            put(row, index, size);
            return size >= 1 && size <= most ? 0 : 5;
        }

        private int newNumber(int number, int digits, int line) {
            for (int l = 0; l < line; l++) {
                if (plan.startsWith(l, number, digits) || plan.isStartedBy(l, number, digits)) {
                    return 6;
                }
            }
            put(plan.numbers, line, number);
            put(plan.digits, line, digits);
            return 0;
        }
    }

    /** What was told: the switches, lines and trunks, and the tests that shut. */
    private static final class Plan {
        int switches;
        int lines;
        int trunks;
        int shuts;
        final int[] bars = new int[MOST_SWITCHES];
        final int[] homes = new int[MOST_LINES];
        /** What a line dials: a number and how many digits it is written with, as noughts ahead count. */
        final int[] numbers = new int[MOST_LINES];
        final int[] digits = new int[MOST_LINES];
        final int[] froms = new int[MOST_TRUNKS];
        final int[] tos = new int[MOST_TRUNKS];
        final int[] wires = new int[MOST_TRUNKS];
        final int[] costs = new int[MOST_TRUNKS];
        final Tests tests = new Tests();

        void clear() {
            switches = 0;
            lines = 0;
            trunks = 0;
            shuts = 0;
            tests.clear();
        }

        void copyFrom(Plan p) {
            switches = p.switches;
            lines = p.lines;
            trunks = p.trunks;
            shuts = p.shuts;
            copy(p.bars, bars);
            copy(p.homes, homes);
            copy(p.numbers, numbers);
            copy(p.digits, digits);
            copy(p.froms, froms);
            copy(p.tos, tos);
            copy(p.wires, wires);
            copy(p.costs, costs);
            tests.copyFrom(p.tests);
        }

        boolean hasSwitch(int s) {
            return s >= 0 && s < switches && s < MOST_SWITCHES;
        }

        boolean hasLine(int l) {
            return l >= 0 && l < lines && l < MOST_LINES;
        }

        boolean hasTrunk(int t) {
            return t >= 0 && t < trunks && t < MOST_TRUNKS;
        }

        /** Whether these digits are the beginning of those that the line dials, or the same. */
        boolean startsWith(int line, int number, int length) {
            return hasLine(line) && length <= digits[line]
                && withoutLast(numbers[line], digits[line] - length) == number;
        }

        /** Whether the digits that the line dials are the beginning of these, or the same. */
        boolean isStartedBy(int line, int number, int length) {
            return hasLine(line) && digits[line] <= length
                && withoutLast(number, length - digits[line]) == numbers[line];
        }

        private static int withoutLast(int number, int cut) {
            int rest = number;
            for (int i = 0; i < cut; i++) {
                rest /= 10;
            }
            return rest;
        }

        /** The switch to which the trunk leads from this one, or NONE, if it is not at it. */
        int across(int trunk, int from) {
            if (!hasTrunk(trunk)) {
                return NONE;
            }
            if (froms[trunk] == from) {
                return tos[trunk];
            }
            return tos[trunk] == from ? froms[trunk] : NONE;
        }

        int linesIn(int set) {
            int found = 0;
            for (int l = 0; l < lines; l++) {
                found += has(set, homes[l]) ? 1 : 0;
            }
            return found;
        }

        int trunksAt(int s) {
            int found = 0;
            for (int t = 0; t < trunks; t++) {
                found += across(t, s) != NONE ? 1 : 0;
            }
            return found;
        }

        /** The trunk parts two lines, if it is the only one between the switches reached from its two ends. */
        int pairsParted(int trunk) {
            if (!hasTrunk(trunk)) {
                return 0;
            }
            int side = reached(froms[trunk], trunk);
            if (has(side, tos[trunk])) {
                return 0;
            }
            return linesIn(side) * linesIn(reached(tos[trunk], trunk));
        }

        private int reached(int from, int withoutTrunk) {
            int set = 1 << from;
            for (int round = 1; round < switches; round++) {
                for (int t = 0; t < trunks; t++) {
                    if (t != withoutTrunk && (has(set, froms[t]) || has(set, tos[t]))) {
                        set |= 1 << froms[t] | 1 << tos[t];
                    }
                }
            }
            return set;
        }
    }

    /** The tests that shut, as steps that reckon with a stack; what holds is 1, what does not is 0. */
    private static final class Tests {
        private final Kind[] steps = new Kind[MOST_TOKENS];
        private final int[] subjects = new int[MOST_TOKENS];
        private final int[] stack = new int[MOST_TOKENS];
        private int length;
        private int height;

        Tests() {
            for (int i = 0; i < steps.length; i++) {
                steps[i] = Kind.END;
            }
        }

        void clear() {
            length = 0;
        }

        void copyFrom(Tests t) {
            length = t.length;
            copy(t.subjects, subjects);
            for (int i = 0; i < length && i < steps.length; i++) {
                steps[i] = t.steps[i];
            }
        }

        boolean add(Kind step, int token) {
            if (length >= steps.length) {
                return false;
            }
            steps[length] = step;
            subjects[length] = token;
            length++;
            return true;
        }

        /** Puts what they mean in the place of tokens. */
        void settle(Tokens tokens) {
            for (int i = 0; i < length && i < subjects.length; i++) {
                subjects[i] = tokens.meaning(subjects[i]);
            }
        }

        /** The trunks that are shut now, as a set. */
        int shutTrunks(Exchange x) {
            int shut = 0;
            height = 0;
            for (int i = 0; i < length && i < steps.length; i++) {
                int subject = subjects[i];
                switch (steps[i]) {
                    case NUMBER: push(subject); break;
                    case TICK: push(x.tick); break;
                    case TALKS: push(x.talks()); break;
                    case FREE: push(x.freeWires(subject)); break;
                    case LOAD: push(x.heldBars(subject)); break;
                    case IDLE: push(x.isIdle(subject) ? 1 : 0); break;
                    case NOT: push(1 - pop()); break;
                    case NEGATE: push(-pop()); break;
                    case SHUT: shut |= pop() << subject; break;
                    default:
                        int right = pop();
                        int left = pop();
                        push(joined(steps[i], left, right));
                }
            }
            return shut;
        }

        private static int joined(Kind step, int left, int right) {
            switch (step) {
                case OR: return left | right;
                case AND: return left & right;
                case LESS: return left < right ? 1 : 0;
                case MORE: return left > right ? 1 : 0;
                case EQUAL: return left == right ? 1 : 0;
                case AT_MOST: return left <= right ? 1 : 0;
                case AT_LEAST: return left >= right ? 1 : 0;
                case PLUS: return left + right;
                case MINUS: return left - right;
                case TIMES: return left * right;
                case DIVIDE: return right == 0 ? 0 : left / right;
                case MIN: return left < right ? left : right;
                case MAX: return left > right ? left : right;
                default: return 0;
            }
        }

        private void push(int value) {
            if (height < stack.length) {
                stack[height] = value;
                height++;
            }
        }

        private int pop() {
            if (height <= 0) {
                return 0;
            }
            height--;
            return stack[height];
        }
    }

    /** What all lines do, and the connections: each stands in the rows of the way, at the line that called. */
    private static final class Exchange {
        private final Plan plan;
        final Ways ways;
        int tick;
        int markers = 1;
        final int[] does = new int[MOST_LINES];
        final int[] others = new int[MOST_LINES];
        final int[] numbers = new int[MOST_LINES];
        final int[] digits = new int[MOST_LINES];
        final int[] called = new int[MOST_LINES];
        final int[] paid = new int[MOST_LINES];
        /** Empty for a line that has not made a connection. */
        final int[] waySwitches = new int[MOST_LINES];
        final int[] wayTrunks = new int[MOST_LINES];
        final int[] wayCosts = new int[MOST_LINES];
        final int[] rang = new int[MOST_LINES];
        final int[] talked = new int[MOST_LINES];
        private final int[] queue = new int[MOST_LINES];
        int waiting;

        Exchange(Plan plan) {
            this.plan = plan;
            this.ways = new Ways(plan);
        }

        void beginAnew() {
            waiting = 0;
            for (int l = 0; l < MOST_LINES; l++) {
                does[l] = IDLE;
                others[l] = NONE;
                paid[l] = 0;
                forgetDigits(l);
                forgetWay(l);
            }
        }

        void copyFrom(Exchange x) {
            tick = x.tick;
            markers = x.markers;
            waiting = x.waiting;
            copy(x.does, does);
            copy(x.others, others);
            copy(x.numbers, numbers);
            copy(x.digits, digits);
            copy(x.called, called);
            copy(x.paid, paid);
            copy(x.waySwitches, waySwitches);
            copy(x.wayTrunks, wayTrunks);
            copy(x.wayCosts, wayCosts);
            copy(x.rang, rang);
            copy(x.talked, talked);
            copy(x.queue, queue);
        }

        private void forgetDigits(int line) {
            numbers[line] = 0;
            digits[line] = 0;
            called[line] = NONE;
        }

        private void forgetWay(int line) {
            waySwitches[line] = 0;
            wayTrunks[line] = 0;
            wayCosts[line] = 0;
            rang[line] = 0;
            talked[line] = 0;
        }

        // ---- what there is

        boolean isIdle(int line) {
            return plan.hasLine(line) && does[line] == IDLE;
        }

        private boolean hasMadeConnection(int line) {
            return waySwitches[line] != 0;
        }

        /** The line that made the connection in which this line is, or NONE. */
        int callerOf(int line) {
            return hasMadeConnection(line) ? line : others[line];
        }

        int connections() {
            int found = 0;
            for (int l = 0; l < plan.lines; l++) {
                found += hasMadeConnection(l) ? 1 : 0;
            }
            return found;
        }

        int talks() {
            int found = 0;
            for (int l = 0; l < plan.lines; l++) {
                found += hasMadeConnection(l) && does[l] == TALKS ? 1 : 0;
            }
            return found;
        }

        int linesThatDo(int what) {
            int found = 0;
            for (int l = 0; l < plan.lines; l++) {
                found += does[l] == what ? 1 : 0;
            }
            return found;
        }

        int paidByAll() {
            int sum = 0;
            for (int l = 0; l < plan.lines; l++) {
                sum += paid[l];
            }
            return sum;
        }

        int heldBars(int s) {
            return setsWith(s, waySwitches);
        }

        int heldWires(int trunk) {
            return setsWith(trunk, wayTrunks);
        }

        int freeWires(int trunk) {
            return trunk >= 0 && trunk < MOST_TRUNKS ? plan.wires[trunk] - setsWith(trunk, wayTrunks) : 0;
        }

        private int setsWith(int member, int[] sets) {
            int found = 0;
            for (int l = 0; l < plan.lines && l < sets.length; l++) {
                found += sets[l] >> member & 1;
            }
            return found;
        }

        // ---- by hand

        int liftLine(int line) {
            int other = others[line];
            if (does[line] == IDLE) {
                does[line] = DIALS;
            } else if (plan.hasLine(other)) {
                does[line] = TALKS;
                does[other] = TALKS;
            }
            return does[line];
        }

        int dialDigit(int line, int digit) {
            numbers[line] = numbers[line] * 10 + digit;
            digits[line]++;
            does[line] = HEARS_NOTHING;
            for (int l = 0; l < plan.lines; l++) {
                if (plan.startsWith(l, numbers[line], digits[line])) {
                    does[line] = DIALS;
                    if (digits[line] == plan.digits[l]) {
                        waitFor(line, l);
                    }
                    return does[line];
                }
            }
            return does[line];
        }

        private void waitFor(int line, int calledLine) {
            does[line] = WAITS;
            called[line] = calledLine;
            put(queue, waiting, line);
            waiting++;
        }

        int hangUp(int line) {
            int before = does[line];
            int other = others[line];
            int place = placeInQueue(line);
            if (place != NONE) {
                leaveQueue(place);
            }
            if (plan.hasLine(other)) {
                does[other] = does[other] == RUNG ? IDLE : HEARS_NOTHING;
                disconnect(line, other);
            }
            does[line] = IDLE;
            forgetDigits(line);
            return before;
        }

        int placeInQueue(int line) {
            for (int i = 0; i < waiting && i < queue.length; i++) {
                if (queue[i] == line) {
                    return i;
                }
            }
            return NONE;
        }

        private void leaveQueue(int place) {
            waiting--;
            for (int i = place; i < waiting && i + 1 < queue.length; i++) {
                queue[i] = queue[i + 1];
            }
        }

        private void disconnect(int a, int b) {
            others[a] = NONE;
            others[b] = NONE;
            forgetWay(a);
            forgetWay(b);
        }

        // ---- ticks

        /** A tick; tells how many connections are made. */
        int goOn() {
            int made = 0;
            for (int i = 0; i < markers && waiting > 0; i++) {
                int line = queue[0];
                leaveQueue(0);
                made += plan.hasLine(line) ? serve(line, called[line]) : 0;
            }
            for (int l = 0; l < plan.lines; l++) {
                if (hasMadeConnection(l)) {
                    ringOrTalk(l);
                }
            }
            tick++;
            return made;
        }

        /** Answers how many connections it made. */
        private int serve(int line, int calledLine) {
            if (!isIdle(calledLine)) {
                does[line] = HEARS_BUSY;
                return 0;
            }
            lookForWay(line, calledLine);
            if (ways.cost == NONE) {
                does[line] = HEARS_NOTHING;
                return 0;
            }
            does[line] = CALLS;
            does[calledLine] = RUNG;
            others[line] = calledLine;
            others[calledLine] = line;
            waySwitches[line] = ways.switches;
            wayTrunks[line] = ways.trunks;
            wayCosts[line] = ways.cost;
            return 1;
        }

        private void ringOrTalk(int line) {
            int other = others[line];
            if (does[line] == TALKS) {
                talked[line]++;
                paid[line] += wayCosts[line] + 1;
                return;
            }
            rang[line]++;
            if (rang[line] >= TICKS_RUNG && plan.hasLine(other)) {
                does[line] = HEARS_NOTHING;
                does[other] = IDLE;
                disconnect(line, other);
            }
        }

        void lookForWay(int a, int b) {
            if (plan.hasLine(a) && plan.hasLine(b)) {
                ways.look(plan.homes[a], plan.homes[b], freeSwitches(), openTrunks());
            }
        }

        private int freeSwitches() {
            int set = 0;
            for (int s = 0; s < plan.switches; s++) {
                set |= heldBars(s) < plan.bars[s] ? 1 << s : 0;
            }
            return set;
        }

        private int openTrunks() {
            int set = 0;
            for (int t = 0; t < plan.trunks; t++) {
                set |= freeWires(t) > 0 ? 1 << t : 0;
            }
            return set & ~plan.tests.shutTrunks(this);
        }
    }

    /** Looks for the cheapest way, and keeps what it found. */
    private static final class Ways {
        private final Plan plan;
        private int goal;
        private int freeSwitches;
        private int openTrunks;
        int cost;
        int switches;
        int trunks;
        private int length;

        Ways(Plan plan) {
            this.plan = plan;
        }

        void look(int start, int end, int free, int open) {
            goal = end;
            freeSwitches = free;
            openTrunks = open;
            cost = NONE;
            switches = 0;
            trunks = 0;
            length = 0;
            if (has(free, start)) {
                explore(start, 1 << start, 0, 0, 0);
            }
        }

        private void explore(int at, int passed, int gone, int price, int depth) {
            if (at == goal) {
                keepIfBetter(passed, gone, price, depth);
                return;
            }
            for (int t = 0; t < plan.trunks && depth < MOST_SWITCHES; t++) {
                int next = plan.across(t, at);
                if (next != NONE && has(openTrunks, t) && has(freeSwitches & ~passed, next)) {
                    explore(next, passed | 1 << next, gone | 1 << t, price + plan.costs[t], depth + 1);
                }
            }
        }

        /** Ways with smaller trunks come first, so that of two that are alike the first one is the better. */
        private void keepIfBetter(int passed, int gone, int price, int steps) {
            if (cost == NONE || price < cost || price == cost && steps < length) {
                cost = price;
                switches = passed;
                trunks = gone;
                length = steps;
            }
        }
    }

    /** Reckons how many connections two switches could hold, by pushing one after the other through what is left. */
    private static final class Flow {
        /** A switch is two places, in and out, and its bars lead from the one to the other. */
        private static final int PLACES = 2 * MOST_SWITCHES;

        private final Plan plan;
        private final int[] room = new int[PLACES * PLACES];
        private int seen;

        Flow(Plan plan) {
            this.plan = plan;
        }

        int greatest(int a, int b, int trunkWithOneMore) {
            fill(trunkWithOneMore);
            int pushed = 0;
            seen = 0;
            while (pushed < MOST_BARS && push(2 * a, 2 * b + 1, 0)) {
                pushed++;
                seen = 0;
            }
            return pushed;
        }

        private void fill(int trunkWithOneMore) {
            Arrays.fill(room, 0);
            for (int s = 0; s < plan.switches; s++) {
                widen(2 * s, 2 * s + 1, plan.bars[s]);
            }
            for (int t = 0; t < plan.trunks; t++) {
                int wires = plan.wires[t] + (t == trunkWithOneMore ? 1 : 0);
                widen(2 * plan.froms[t] + 1, 2 * plan.tos[t], wires);
                widen(2 * plan.tos[t] + 1, 2 * plan.froms[t], wires);
            }
        }

        private int left(int from, int to) {
            int index = from * PLACES + to;
            return index >= 0 && index < room.length ? room[index] : 0;
        }

        private void widen(int from, int to, int by) {
            put(room, from * PLACES + to, left(from, to) + by);
        }

        private boolean push(int at, int goal, int depth) {
            if (at == goal) {
                return true;
            }
            seen |= 1 << at;
            for (int next = 0; next < PLACES && depth < PLACES; next++) {
                if (!has(seen, next) && left(at, next) > 0 && push(next, goal, depth + 1)) {
                    widen(at, next, -1);
                    widen(next, at, 1);
                    return true;
                }
            }
            return false;
        }
    }
}
