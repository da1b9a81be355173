import java.util.Arrays;

/** An air show through one box of sky; DOC.md tells its promises by number. */
public final class SkyBox {
    public static final int NONE = -1;

    private static final int CANT_BE = -2;
    private static final int MINUTES = 240;
    private static final int BASES = 10;
    private static final int MAX_ACTS = 6;
    private static final int MAX_FIGURES = 6;
    private static final int LANDING_MARK = 100;

    private final Tape tape;
    private final Reader reader;
    private final Show show;
    private final Facts facts;
    private final Sky sky;
    private final Planner planner;
    private final Flights planned;
    private boolean isPlanned;
    private Text text;
    private Text draft;
    private int faultPlace;

    public SkyBox() {
        tape = new Tape();
        reader = new Reader(tape);
        show = new Show();
        facts = new Facts();
        sky = new Sky();
        text = new Text();
        draft = new Text();
        planner = new Planner(show, sky, text);
        planned = new Flights();
        isPlanned = false;
        faultPlace = NONE;
    }

    public int feed(int a, int b, int c, int d, int e) {
        if (!tape.hasRoomFor(5 * Tape.BYTES_OF_INT)) {
            return NONE;
        }
        tape.append(a);
        tape.append(b);
        tape.append(c);
        tape.append(d);
        tape.append(e);
        return tape.size;
    }

    public int back(int n) {
        if (!isWithin(n, 0, tape.size)) {
            return NONE;
        }
        tape.size -= n;
        return tape.size;
    }

    public int read() {
        int fault = reader.compile(draft);
        faultPlace = fault == Reader.NO_FAULT ? NONE : reader.placeReached();
        tape.size = 0;
        if (fault == Reader.NO_FAULT) {
            Text former = text;
            text = draft;
            draft = former;
        }
        return fault;
    }

    public int place() {
        return faultPlace;
    }

    public int act(int kind, int pilot, int worth, int climb, int home, int fuel) {
        boolean showable = isWithin(kind, 0, 3) && isWithin(pilot, 0, 7) && isWithin(worth, 0, 100);
        boolean flyable = isWithin(climb, 1, 20) && isWithin(home, 1, 20) && isWithin(fuel, 1, 120);
        if (!showable || !flyable || show.size >= MAX_ACTS) {
            return NONE;
        }
        return show.add(new Act(kind, pilot, worth, climb, home, fuel));
    }

    public int figure(int act, int minutes, int speed, int height, boolean high) {
        Act owner = show.actAt(act);
        if (owner == null || owner.size >= MAX_FIGURES) {
            return NONE;
        }
        if (!isWithin(minutes, 1, 9) || !isWithin(speed, 0, 20) || !isWithin(height, 0, 9)) {
            return NONE;
        }
        return owner.add(new Figure(minutes, speed, height, high));
    }

    public boolean falls(int n) {
        if (n != Show.CELLS && n != NONE) {
            return false;
        }
        show.resetFalls(n == NONE);
        return true;
    }

    public boolean cell(int i, int v) {
        if (show.fallsMissing || !isWithin(i, 0, Show.CELLS - 1) || !isWithin(v, 0, 99)) {
            return false;
        }
        show.falls[i] = v;
        return true;
    }

    public boolean ground(int wind, int line) {
        if (!isWithin(wind, 0, 50) || !isWithin(line, 0, 300)) {
            return false;
        }
        show.wind = wind;
        show.line = line;
        return true;
    }

    public int base(int minute, int v) {
        if (!isMinute(minute) || !isBase(v)) {
            return NONE;
        }
        return facts.add(Facts.BASE, minute, v);
    }

    public int birds(int a, int b) {
        return closeBox(a, b);
    }

    public int ready(int act, int minute) {
        if (show.actAt(act) == null || !isMinute(minute)) {
            return NONE;
        }
        return facts.add(Facts.READY, act, minute);
    }

    public int away(int a, int b) {
        return closeBox(a, b);
    }

    public int refused(int act, int figure) {
        Act owner = show.actAt(act);
        Figure asked = owner == null ? null : owner.figureAt(figure);
        if (asked == null) {
            return NONE;
        }
        return show.refuses(asked) ? 1 : 0;
    }

    public int length(int act, int base) {
        Act asked = show.actAt(act);
        if (asked == null || !isBase(base)) {
            return NONE;
        }
        return show.minutesInBox(asked, base);
    }

    public int baseIn(int minute, int n) {
        if (!isMinute(minute) || !facts.has(n)) {
            return NONE;
        }
        sky.learn(facts, n);
        return sky.base[minute];
    }

    public int plan(int n) {
        if (!facts.has(n)) {
            return NONE;
        }
        // with nothing to keep, THE MENDING is THE PLAN
        planned.clear();
        isPlanned = true;
        prepare(n);
        return planner.replace(planned);
    }

    public int mend(int n) {
        if (!isPlanned || !facts.has(n)) {
            return NONE;
        }
        prepare(n);
        return planner.replace(planned);
    }

    public int order(int i) {
        return isWithin(i, 0, planned.size - 1) ? planned.order[i] : NONE;
    }

    public int told(int act, int what) {
        if (!planned.has(act)) {
            return NONE;
        }
        switch (what) {
            case 0:
                return planned.takeOff[act];
            case 1:
                return planned.begin[act];
            case 2:
                return planned.begin[act] + planned.minutes[act];
            case 3:
                return planned.landing[act];
            case 4:
                return planned.minutes[act];
            default:
                return NONE;
        }
    }

    public int out(int act, int minute, int n) {
        if (show.actAt(act) == null || !isMinute(minute) || !facts.has(n)) {
            return NONE;
        }
        prepare(n);
        return planner.outRuleFor(act, minute);
    }

    public int can(int a, int b, int c, int d, int n) {
        if (!isOrder(a, b, c, d) || !facts.has(n)) {
            return NONE;
        }
        prepare(n);
        boolean flown = planner.fly(a)
                && (b == NONE || planner.fly(b))
                && (c == NONE || planner.fly(c))
                && (d == NONE || planner.fly(d));
        return flown ? planner.trial.worth : CANT_BE;
    }

    public int runway(int minute) {
        if (!isMinute(minute)) {
            return NONE;
        }
        for (int act = 0; act < MAX_ACTS; act++) {
            if (planned.takeOff[act] == minute) {
                return act;
            }
            if (planned.landing[act] == minute) {
                return LANDING_MARK + act;
            }
        }
        return NONE;
    }

    public int count(int what) {
        switch (what) {
            case 0:
                return show.size;
            case 1:
                return facts.size;
            case 2:
                return text.size;
            case 3:
                return isPlanned ? planned.size : NONE;
            case 4:
                return planned.lastLanding();
            case 5:
                return tape.size;
            case 6:
                return show.wind;
            case 7:
                return show.line;
            default:
                return NONE;
        }
    }

    private static boolean isWithin(int value, int least, int most) {
        return value >= least && value <= most;
    }

    private static boolean isMinute(int value) {
        return isWithin(value, 0, MINUTES - 1);
    }

    private static boolean isBase(int value) {
        return isWithin(value, 0, BASES - 1);
    }

    /** BIRDS and a RESCUE that is away are one kind of FACT inside: no rule tells them apart. */
    private int closeBox(int from, int to) {
        if (from < 0 || from >= to || to > MINUTES) {
            return NONE;
        }
        return facts.add(Facts.CLOSED, from, to);
    }

    private boolean isOrder(int a, int b, int c, int d) {
        if (show.actAt(a) == null || !isActOrNone(b) || !isActOrNone(c) || !isActOrNone(d)) {
            return false;
        }
        if ((b == NONE && c != NONE) || (c == NONE && d != NONE)) {
            return false;
        }
        return a != b && a != c && a != d && !isTwice(b, c) && !isTwice(b, d) && !isTwice(c, d);
    }

    private boolean isActOrNone(int number) {
        return number == NONE || show.actAt(number) != null;
    }

    private static boolean isTwice(int one, int other) {
        return one == other && one != NONE;
    }

    private void prepare(int n) {
        sky.learn(facts, n);
        planner.begin(text);
    }

    /** The bytes that wait to be read. */
    private static final class Tape {
        static final int BYTES_OF_INT = 4;
        private static final int MOST = 2000;

        private final byte[] bytes = new byte[MOST];
        int size;

        Tape() {
            size = 0;
        }

        boolean hasRoomFor(int more) {
            return size + more <= MOST;
        }

        void append(int word) {
            for (int shift = 24; shift >= 0 && size < MOST; shift -= 8) {
                bytes[size] = (byte) (word >> shift);
                size++;
            }
        }

        /** A byte; behind the last one 0, which is in no TOKEN. */
        int byteAt(int index) {
            return index >= 0 && index < size && index < MOST ? bytes[index] : 0;
        }
    }

    /** Cuts the tape into TOKENS, one at a time. */
    private static final class Scanner {
        static final int OUT = 0;
        static final int GAP = 1;
        static final int SPARE = 2;
        static final int IF = 3;
        static final int OR = 4;
        static final int AND = 5;
        static final int FIRST_VAR = 6;
        static final int LAST_VAR = 14;
        static final int SEMICOLON = 15;
        static final int PLUS = 16;
        static final int MINUS = 17;
        static final int TIMES = 18;
        static final int EQUAL = 19;
        static final int UNEQUAL = 20;
        static final int LESS = 21;
        static final int AT_MOST = 22;
        static final int OPEN = 23;
        static final int CLOSE = 24;
        static final int INT = 25;
        static final int END = 26;
        /** What is no TOKEN, and a WORD that no text has. */
        static final int STRANGE = 27;

        private static final int LETTERS = 8;
        private static final int DIGITS = 4;
        /** Each WORD, by its number, in a field of eight letters. */
        private static final String WORDS =
                "out     gap     spare   if      or      and     act     kind    ahead   same    base    minute  wind    length  worth   ";

        private final Tape tape;
        private int next;
        int kind;
        int value;
        int place;

        Scanner(Tape tape) {
            this.tape = tape;
            restart();
        }

        void restart() {
            next = 0;
            kind = END;
            value = 0;
            place = 0;
        }

        void advance() {
            while (next < tape.size && isBlank(tape.byteAt(next))) {
                next++;
            }
            place = next;
            value = 0;
            int first = tape.byteAt(next);
            if (next >= tape.size) {
                kind = END;
            } else if (isLetter(first)) {
                takeWord();
            } else if (isDigit(first)) {
                takeInt();
            } else {
                takeSign(first);
            }
        }

        private void takeWord() {
            while (next < tape.size && isLetter(tape.byteAt(next))) {
                next++;
            }
            kind = STRANGE;
            for (int word = OUT; word <= LAST_VAR && kind == STRANGE; word++) {
                if (isWord(word)) {
                    kind = word;
                }
            }
        }

        private boolean isWord(int word) {
            if (next - place > LETTERS) {
                return false;
            }
            for (int i = 0; i < LETTERS; i++) {
                int letter = place + i < next ? tape.byteAt(place + i) : ' ';
                int at = word * LETTERS + i;
                if (at >= WORDS.length() || WORDS.charAt(at) != letter) {
                    return false;
                }
            }
            return true;
        }

        private void takeInt() {
            while (next < tape.size && isDigit(tape.byteAt(next))) {
                value = value * 10 + tape.byteAt(next) - '0';
                next++;
            }
            kind = next - place <= DIGITS ? INT : STRANGE;
        }

        private void takeSign(int first) {
            next++;
            boolean beforeEqual = tape.byteAt(next) == '=';
            kind = beforeEqual ? kindOfPair(first) : STRANGE;
            if (kind == STRANGE) {
                kind = kindOfSingle(first);
            } else {
                next++;
            }
        }

        private static int kindOfPair(int first) {
            switch (first) {
                case '=':
                    return EQUAL;
                case '!':
                    return UNEQUAL;
                case '<':
                    return AT_MOST;
                default:
                    return STRANGE;
            }
        }

        private static int kindOfSingle(int sign) {
            switch (sign) {
                case ';':
                    return SEMICOLON;
                case '+':
                    return PLUS;
                case '-':
                    return MINUS;
                case '*':
                    return TIMES;
                case '<':
                    return LESS;
                case '(':
                    return OPEN;
                case ')':
                    return CLOSE;
                default:
                    return STRANGE;
            }
        }

        private static boolean isBlank(int sign) {
            return sign == 9 || sign == 10 || sign == 13 || sign == 32;
        }

        private static boolean isLetter(int sign) {
            return sign >= 'a' && sign <= 'z';
        }

        private static boolean isDigit(int sign) {
            return sign >= '0' && sign <= '9';
        }
    }

    /**
     * Compiles the tape into a Text. COND has no brackets of its own, so a few states and a
     * row of waiting operators do, and each TOKEN is judged before any behind it is seen: the
     * first one refused is the one with which no text goes on.
     */
    private static final class Reader {
        static final int NO_FAULT = 0;
        private static final int SYNTAX = 1;
        private static final int ROOM = 2;
        private static final int MAX_TOKENS = 400;
        private static final int MAX_DEPTH = 6;
        /** 'or', 'and', a relation, and '+', '*', '(' for each depth at most wait at once. */
        private static final int MAX_WAITING = 3 + 3 * (MAX_DEPTH + 1);

        private static final int RULE_DUE = 0;
        private static final int IF_DUE = 1;
        private static final int UNIT_DUE = 2;
        private static final int UNIT_PAST = 3;

        private static final int AMOUNT = 0;
        private static final int LEFT = 1;
        private static final int RIGHT = 2;

        private final Scanner scanner;
        private final int[] waiting = new int[MAX_WAITING];
        private int waitingSize;
        private int state;
        private int side;
        private int depth;

        Reader(Tape tape) {
            scanner = new Scanner(tape);
            waitingSize = 0;
            state = RULE_DUE;
            side = AMOUNT;
            depth = 0;
        }

        int placeReached() {
            return scanner.place;
        }

        int compile(Text into) {
            start(into);
            for (int taken = 0; taken <= MAX_TOKENS; taken++) {
                scanner.advance();
                if (scanner.kind == Scanner.END && state == RULE_DUE) {
                    return NO_FAULT;
                }
                if (!goesOnWith(scanner.kind)) {
                    return SYNTAX;
                }
                if (taken == MAX_TOKENS || lacksRoomFor(into, scanner.kind)) {
                    return ROOM;
                }
                take(into, scanner.kind);
            }
            return ROOM;
        }

        private void start(Text into) {
            into.clear();
            scanner.restart();
            waitingSize = 0;
            state = RULE_DUE;
            side = AMOUNT;
            depth = 0;
        }

        private boolean goesOnWith(int kind) {
            switch (state) {
                case RULE_DUE:
                    return kind == Scanner.OUT || kind == Scanner.GAP || kind == Scanner.SPARE;
                case IF_DUE:
                    return kind == Scanner.IF;
                case UNIT_DUE:
                    return kind == Scanner.INT || kind == Scanner.OPEN || isVar(kind);
                default:
                    return goesOnBehindUnit(kind);
            }
        }

        private boolean goesOnBehindUnit(int kind) {
            if (kind == Scanner.PLUS || kind == Scanner.MINUS || kind == Scanner.TIMES) {
                return true;
            }
            if (depth > 0) {
                return kind == Scanner.CLOSE;
            }
            switch (side) {
                case AMOUNT:
                    return kind == Scanner.IF || kind == Scanner.SEMICOLON;
                case LEFT:
                    return isRelation(kind);
                default:
                    return kind == Scanner.AND || kind == Scanner.OR || kind == Scanner.SEMICOLON;
            }
        }

        private boolean lacksRoomFor(Text into, int kind) {
            boolean oneRuleTooMany = state == RULE_DUE && into.isFull();
            return oneRuleTooMany || (kind == Scanner.OPEN && depth >= MAX_DEPTH);
        }

        private void take(Text into, int kind) {
            switch (state) {
                case RULE_DUE:
                    into.openRule(kind);
                    side = kind == Scanner.OUT ? LEFT : AMOUNT;
                    state = kind == Scanner.OUT ? IF_DUE : UNIT_DUE;
                    break;
                case IF_DUE:
                    state = UNIT_DUE;
                    break;
                case UNIT_DUE:
                    takeUnit(into, kind);
                    break;
                default:
                    takeBehindUnit(into, kind);
                    break;
            }
        }

        private void takeUnit(Text into, int kind) {
            if (kind == Scanner.OPEN) {
                hold(kind);
                depth++;
            } else {
                into.emit(kind, scanner.value);
                state = UNIT_PAST;
            }
        }

        private void takeBehindUnit(Text into, int kind) {
            release(into, rankOf(kind));
            if (kind == Scanner.CLOSE) {
                // the '(' is what waits last now
                waitingSize = Math.max(0, waitingSize - 1);
                depth--;
            } else if (kind == Scanner.SEMICOLON) {
                into.closeRule();
                state = RULE_DUE;
            } else if (kind == Scanner.IF) {
                into.openCondition();
                side = LEFT;
                state = UNIT_DUE;
            } else {
                hold(kind);
                state = UNIT_DUE;
                if (isRelation(kind)) {
                    side = RIGHT;
                } else if (kind == Scanner.AND || kind == Scanner.OR) {
                    side = LEFT;
                }
            }
        }

        private void hold(int kind) {
            if (waitingSize < MAX_WAITING) {
                waiting[waitingSize] = kind;
                waitingSize++;
            }
        }

        /** All operators wait from the left, so one of the same rank goes first. */
        private void release(Text into, int rank) {
            while (waitingSize > 0 && waiting[waitingSize - 1] != Scanner.OPEN
                    && rankOf(waiting[waitingSize - 1]) >= rank) {
                waitingSize--;
                into.emit(waiting[waitingSize], 0);
            }
        }

        /** How closely an operator binds; 0 for what ends a whole E or COND. */
        private static int rankOf(int kind) {
            switch (kind) {
                case Scanner.TIMES:
                    return 5;
                case Scanner.PLUS:
                case Scanner.MINUS:
                    return 4;
                case Scanner.AND:
                    return 2;
                case Scanner.OR:
                    return 1;
                default:
                    return isRelation(kind) ? 3 : 0;
            }
        }

        private static boolean isVar(int kind) {
            return kind >= Scanner.FIRST_VAR && kind <= Scanner.LAST_VAR;
        }

        private static boolean isRelation(int kind) {
            return kind >= Scanner.EQUAL && kind <= Scanner.AT_MOST;
        }
    }

    /** RULES in the form in which they are worked out: operators behind what they work on. */
    private static final class Text {
        static final int VARS = Scanner.LAST_VAR - Scanner.FIRST_VAR + 1;
        static final int ACT = 0;
        static final int KIND = 1;
        static final int AHEAD = 2;
        static final int SAME = 3;
        static final int BASE = 4;
        static final int MINUTE = 5;
        static final int WIND = 6;
        static final int LENGTH = 7;
        static final int WORTH = 8;

        private static final int MOST_HELD = 30;
        private static final int MAX_RULES = 16;
        private static final int MAX_CODE = 400;
        private static final int KIND_BITS = 5;
        private static final int KIND_MASK = 31;
        /** Far above the 24 that six brackets, with all operators before each, can need. */
        private static final int MAX_STACK = 32;

        private final int[] kinds = new int[MAX_RULES];
        private final int[] starts = new int[MAX_RULES];
        private final int[] conditions = new int[MAX_RULES];
        private final int[] ends = new int[MAX_RULES];
        private final int[] code = new int[MAX_CODE];
        private final int[] stack = new int[MAX_STACK];
        private int codeSize;
        int size;

        Text() {
            codeSize = 0;
            size = 0;
        }

        void clear() {
            codeSize = 0;
            size = 0;
        }

        boolean isFull() {
            return size >= MAX_RULES;
        }

        void openRule(int kind) {
            if (size < MAX_RULES) {
                kinds[size] = kind;
                starts[size] = codeSize;
                conditions[size] = kind == Scanner.OUT ? codeSize : NONE;
            }
        }

        void openCondition() {
            if (size < MAX_RULES) {
                conditions[size] = codeSize;
            }
        }

        void closeRule() {
            if (size < MAX_RULES) {
                ends[size] = codeSize;
                if (conditions[size] == NONE) {
                    conditions[size] = codeSize;
                }
                size++;
            }
        }

        void emit(int kind, int value) {
            if (codeSize < MAX_CODE) {
                code[codeSize] = value << KIND_BITS | kind;
                codeSize++;
            }
        }

        /** What a gap or spare RULE comes to; 0 without one. */
        int amountOf(int rule, int[] vars) {
            if (rule < 0 || rule >= size || rule >= MAX_RULES) {
                return 0;
            }
            return Math.max(0, Math.min(MOST_HELD, work(starts[rule], conditions[rule], vars)));
        }

        int firstThatHolds(int kind, int[] vars) {
            for (int rule = 0; rule < size && rule < MAX_RULES; rule++) {
                if (kinds[rule] == kind) {
                    boolean always = conditions[rule] == ends[rule];
                    if (always || work(conditions[rule], ends[rule], vars) != 0) {
                        return rule;
                    }
                }
            }
            return NONE;
        }

        private int work(int from, int to, int[] vars) {
            int top = 0;
            for (int i = Math.max(0, from); i < to && i < MAX_CODE; i++) {
                int kind = code[i] & KIND_MASK;
                int asked = kind - Scanner.FIRST_VAR;
                if (kind == Scanner.INT && top < MAX_STACK) {
                    stack[top] = code[i] >> KIND_BITS;
                    top++;
                } else if (asked >= 0 && asked < VARS && asked < vars.length && top < MAX_STACK) {
                    stack[top] = vars[asked];
                    top++;
                } else if (top >= 2) {
                    top--;
                    stack[top - 1] = join(kind, stack[top - 1], stack[top]);
                }
            }
            return stack[0];
        }

        private static int join(int kind, int left, int right) {
            switch (kind) {
                case Scanner.PLUS:
                    return left + right;
                case Scanner.MINUS:
                    return left - right;
                case Scanner.TIMES:
                    return left * right;
                case Scanner.EQUAL:
                    return left == right ? 1 : 0;
                case Scanner.UNEQUAL:
                    return left != right ? 1 : 0;
                case Scanner.LESS:
                    return left < right ? 1 : 0;
                case Scanner.AT_MOST:
                    return left <= right ? 1 : 0;
                case Scanner.AND:
                    return left & right;
                default:
                    return left | right;
            }
        }
    }

    private static final class Figure {
        final int minutes;
        final int speed;
        final int height;
        final boolean high;

        Figure(int minutes, int speed, int height, boolean high) {
            this.minutes = minutes;
            this.speed = speed;
            this.height = height;
            this.high = high;
        }
    }

    private static final class Act {
        final int kind;
        final int pilot;
        final int worth;
        final int climb;
        final int home;
        final int fuel;
        private final Figure[] figures = new Figure[MAX_FIGURES];
        int size;

        Act(int kind, int pilot, int worth, int climb, int home, int fuel) {
            this.kind = kind;
            this.pilot = pilot;
            this.worth = worth;
            this.climb = climb;
            this.home = home;
            this.fuel = fuel;
            size = 0;
        }

        int add(Figure added) {
            if (size >= MAX_FIGURES) {
                return NONE;
            }
            figures[size] = added;
            size++;
            return size - 1;
        }

        Figure figureAt(int number) {
            return number >= 0 && number < size && number < MAX_FIGURES ? figures[number] : null;
        }
    }

    /** The ACTS, and the ground below them: what decides how long each is in the box. */
    private static final class Show {
        static final int CELLS = 10;
        private static final int CELL_IF_MISSING = 20;
        private static final int FIRST_LINE = 100;

        private final Act[] acts = new Act[MAX_ACTS];
        int size;
        final int[] falls = new int[CELLS];
        boolean fallsMissing;
        int wind;
        int line;

        Show() {
            size = 0;
            fallsMissing = true;
            wind = 0;
            line = FIRST_LINE;
        }

        int add(Act added) {
            if (size >= MAX_ACTS) {
                return NONE;
            }
            acts[size] = added;
            size++;
            return size - 1;
        }

        Act actAt(int number) {
            return number >= 0 && number < size && number < MAX_ACTS ? acts[number] : null;
        }

        void resetFalls(boolean missing) {
            fallsMissing = missing;
            Arrays.fill(falls, 0);
        }

        boolean refuses(Figure asked) {
            boolean hasCell = !fallsMissing && asked.height >= 0 && asked.height < CELLS;
            int cell = hasCell ? falls[asked.height] : CELL_IF_MISSING;
            return asked.speed * cell / 10 + wind >= line;
        }

        /** LENGTH of an ACT by a BASE; 0: it can't fly. */
        int minutesInBox(Act asked, int base) {
            int high = minutesBelow(asked, base, true);
            return high > 0 ? high : minutesBelow(asked, base, false);
        }

        private int minutesBelow(Act asked, int base, boolean flyHigh) {
            int sum = 0;
            for (int i = 0; i < asked.size; i++) {
                Figure each = asked.figureAt(i);
                if (each != null && (flyHigh || !each.high) && !refuses(each)) {
                    if (each.height >= base) {
                        return 0;
                    }
                    sum += each.minutes;
                }
            }
            return sum;
        }
    }

    private static final class Facts {
        static final int BASE = 0;
        static final int CLOSED = 1;
        static final int READY = 2;
        private static final int MOST = 100;

        final int[] kinds = new int[MOST];
        final int[] firsts = new int[MOST];
        final int[] seconds = new int[MOST];
        int size;

        Facts() {
            size = 0;
        }

        int add(int kind, int first, int second) {
            if (size >= MOST) {
                return NONE;
            }
            kinds[size] = kind;
            firsts[size] = first;
            seconds[size] = second;
            size++;
            return size - 1;
        }

        boolean has(int n) {
            return n >= 0 && n <= size;
        }
    }

    /** The afternoon as it is KNOWN by the first FACTS. */
    private static final class Sky {
        private static final int CLEAR = 9;

        final int[] base = new int[MINUTES];
        /** The first MINUTE from each on in which the box is closed, by BIRDS, RESCUE or evening. */
        final int[] openTill = new int[MINUTES];
        final int[] ready = new int[MAX_ACTS];

        Sky() {
            Arrays.fill(base, CLEAR);
            Arrays.fill(openTill, MINUTES);
        }

        void learn(Facts facts, int n) {
            Arrays.fill(base, NONE);
            Arrays.fill(ready, 0);
            Arrays.fill(openTill, MINUTES);
            for (int i = 0; i < n && i < facts.kinds.length; i++) {
                learnOne(facts.kinds[i], facts.firsts[i], facts.seconds[i]);
            }
            carryBaseOn();
            lookAhead();
        }

        private void learnOne(int kind, int first, int second) {
            if (kind == Facts.BASE && first >= 0 && first < MINUTES) {
                base[first] = second;
            } else if (kind == Facts.READY && first >= 0 && first < MAX_ACTS) {
                ready[first] = second;
            } else if (kind == Facts.CLOSED && first >= 0 && second <= MINUTES) {
                for (int minute = first; minute < second; minute++) {
                    openTill[minute] = minute;
                }
            }
        }

        private void carryBaseOn() {
            int latest = CLEAR;
            for (int minute = 0; minute < MINUTES; minute++) {
                if (base[minute] == NONE) {
                    base[minute] = latest;
                }
                latest = base[minute];
            }
        }

        private void lookAhead() {
            for (int minute = MINUTES - 2; minute >= 0; minute--) {
                openTill[minute] = Math.min(openTill[minute], openTill[minute + 1]);
            }
        }
    }

    /** An ORDER that can be, with the MINUTES of each ACT in it; rows by ACT hold NONE for others. */
    private static final class Flights {
        final int[] order = new int[MAX_ACTS];
        final int[] takeOff = new int[MAX_ACTS];
        final int[] begin = new int[MAX_ACTS];
        final int[] minutes = new int[MAX_ACTS];
        final int[] landing = new int[MAX_ACTS];
        int size;
        int worth;

        Flights() {
            clear();
        }

        void clear() {
            Arrays.fill(order, NONE);
            Arrays.fill(takeOff, NONE);
            Arrays.fill(begin, NONE);
            Arrays.fill(minutes, NONE);
            Arrays.fill(landing, NONE);
            size = 0;
            worth = 0;
        }

        boolean has(int act) {
            return act >= 0 && act < MAX_ACTS && begin[act] != NONE;
        }

        int lastAct() {
            return size > 0 && size <= MAX_ACTS ? order[size - 1] : NONE;
        }

        /** When the box is left by the last one in the ORDER. */
        int end() {
            int last = lastAct();
            return has(last) ? begin[last] + minutes[last] : 0;
        }

        /** The latest of all landings; NONE, which is ahead of all, without ACTS. */
        int lastLanding() {
            int latest = NONE;
            for (int act = 0; act < MAX_ACTS; act++) {
                latest = Math.max(latest, landing[act]);
            }
            return latest;
        }

        void add(int act, int worthOfAct, int offAt, int beginAt, int inBox, int downAt) {
            if (size < MAX_ACTS && act >= 0 && act < MAX_ACTS) {
                order[size] = act;
                takeOff[act] = offAt;
                begin[act] = beginAt;
                minutes[act] = inBox;
                landing[act] = downAt;
                size++;
                worth += worthOfAct;
            }
        }

        void dropLast(int worthOfAct) {
            int last = lastAct();
            if (has(last)) {
                takeOff[last] = NONE;
                begin[last] = NONE;
                minutes[last] = NONE;
                landing[last] = NONE;
                size--;
                order[size] = NONE;
                worth -= worthOfAct;
            }
        }

        int sameBegins(Flights other) {
            int same = 0;
            for (int act = 0; act < MAX_ACTS; act++) {
                if (begin[act] != NONE && begin[act] == other.begin[act]) {
                    same++;
                }
            }
            return same;
        }

        void copy(Flights other) {
            System.arraycopy(other.order, 0, order, 0, MAX_ACTS);
            System.arraycopy(other.takeOff, 0, takeOff, 0, MAX_ACTS);
            System.arraycopy(other.begin, 0, begin, 0, MAX_ACTS);
            System.arraycopy(other.minutes, 0, minutes, 0, MAX_ACTS);
            System.arraycopy(other.landing, 0, landing, 0, MAX_ACTS);
            size = other.size;
            worth = other.worth;
        }
    }

    /** Lets ACTS fly one behind the other, and looks for the best ORDER of them. */
    private static final class Planner {
        private final Show show;
        private final Sky sky;
        private final int[] vars = new int[Text.VARS];
        private final int[] lengths = new int[MAX_ACTS * BASES];
        private final boolean[] taken = new boolean[MINUTES];
        private final Flights best = new Flights();
        final Flights trial = new Flights();
        private Text text;

        Planner(Show show, Sky sky, Text text) {
            this.show = show;
            this.sky = sky;
            this.text = text;
        }

        void begin(Text rules) {
            text = rules;
            trial.clear();
            for (int minute = 0; minute < MINUTES; minute++) {
                taken[minute] = false;
            }
            for (int i = 0; i < lengths.length; i++) {
                Act each = show.actAt(i / BASES);
                lengths[i] = each == null ? 0 : show.minutesInBox(each, i % BASES);
            }
        }

        int outRuleFor(int number, int minute) {
            Act act = show.actAt(number);
            int minutes = minutesFrom(number, minute);
            if (act == null || minutes == 0) {
                return NONE;
            }
            describe(act, number);
            describeBegin(minute, minutes);
            return text.firstThatHolds(Scanner.OUT, vars);
        }

        /** Puts the best ORDER in place of the former one, of which it keeps what it can: its WORTH. */
        int replace(Flights former) {
            best.clear();
            extend(former, 0);
            former.copy(best);
            return best.worth;
        }

        /**
         * Goes through all ORDERS in the sequence in which the document ranks the ones alike
         * in all else, so a later one must be better to be taken.
         */
        private void extend(Flights former, int depth) {
            if (isBetter(former)) {
                best.copy(trial);
            }
            if (depth >= MAX_ACTS || isHopeless(former)) {
                return;
            }
            for (int number = 0; number < show.size; number++) {
                if (!trial.has(number) && fly(number)) {
                    extend(former, depth + 1);
                    callBack();
                }
            }
        }

        private boolean isBetter(Flights former) {
            if (trial.worth != best.worth) {
                return trial.worth > best.worth;
            }
            int kept = trial.sameBegins(former);
            int bestKept = best.sameBegins(former);
            return kept != bestKept ? kept > bestKept : trial.lastLanding() < best.lastLanding();
        }

        /** Whether no ORDER that begins as the trial could be better than the best. */
        private boolean isHopeless(Flights former) {
            int mostWorth = trial.worth;
            int mostKept = trial.sameBegins(former);
            for (int number = 0; number < show.size; number++) {
                Act each = show.actAt(number);
                if (each != null && !trial.has(number)) {
                    mostWorth += each.worth;
                    mostKept += former.has(number) ? 1 : 0;
                }
            }
            if (mostWorth != best.worth) {
                return mostWorth < best.worth;
            }
            int bestKept = best.sameBegins(former);
            return mostKept != bestKept ? mostKept < bestKept : trial.lastLanding() >= best.lastLanding();
        }

        /** Puts an ACT behind the trial in the first MINUTE in which it can begin; false: in none. */
        boolean fly(int number) {
            Act act = show.actAt(number);
            if (act == null || trial.has(number)) {
                return false;
            }
            describe(act, number);
            int first = Math.max(trial.end(), sky.ready[number] + act.climb);
            for (int minute = Math.max(0, first); minute < MINUTES; minute++) {
                int minutes = minutesFrom(number, minute);
                boolean open = minutes > 0 && minute + minutes <= sky.openTill[minute];
                if (open && flyFrom(act, number, minute, minutes)) {
                    return true;
                }
            }
            return false;
        }

        /** The runway is asked ahead of the text, which costs more. */
        private boolean flyFrom(Act act, int number, int minute, int minutes) {
            int takeOff = lastFree(sky.ready[number], minute - act.climb);
            int landing = firstFree(minute + minutes + act.home);
            if (takeOff == NONE || landing == NONE || landing - takeOff > act.fuel) {
                return false;
            }
            describeBegin(minute, minutes);
            int gapRule = trial.size > 0 ? text.firstThatHolds(Scanner.GAP, vars) : NONE;
            if (minute - trial.end() < text.amountOf(gapRule, vars)) {
                return false;
            }
            int spareRule = text.firstThatHolds(Scanner.SPARE, vars);
            if (landing - takeOff > act.fuel - text.amountOf(spareRule, vars)) {
                return false;
            }
            if (text.firstThatHolds(Scanner.OUT, vars) != NONE) {
                return false;
            }
            trial.add(number, act.worth, takeOff, minute, minutes, landing);
            taken[takeOff] = true;
            taken[landing] = true;
            return true;
        }

        private void callBack() {
            int last = trial.lastAct();
            Act act = show.actAt(last);
            if (act != null && trial.has(last)) {
                taken[trial.takeOff[last]] = false;
                taken[trial.landing[last]] = false;
                trial.dropLast(act.worth);
            }
        }

        private int minutesFrom(int number, int minute) {
            int at = number * BASES + sky.base[minute];
            return at >= 0 && at < lengths.length ? lengths[at] : 0;
        }

        private int lastFree(int from, int to) {
            for (int minute = Math.min(to, MINUTES - 1); minute >= from && minute >= 0; minute--) {
                if (!taken[minute]) {
                    return minute;
                }
            }
            return NONE;
        }

        private int firstFree(int from) {
            for (int minute = Math.max(0, from); minute < MINUTES; minute++) {
                if (!taken[minute]) {
                    return minute;
                }
            }
            return NONE;
        }

        private void describe(Act act, int number) {
            Act ahead = show.actAt(trial.lastAct());
            vars[Text.ACT] = number;
            vars[Text.KIND] = act.kind;
            vars[Text.AHEAD] = ahead == null ? NONE : ahead.kind;
            vars[Text.SAME] = flownBy(act.pilot);
            vars[Text.WIND] = show.wind;
            vars[Text.WORTH] = act.worth;
        }

        private void describeBegin(int minute, int minutes) {
            vars[Text.BASE] = sky.base[minute];
            vars[Text.MINUTE] = minute;
            vars[Text.LENGTH] = minutes;
        }

        private int flownBy(int pilot) {
            int flown = 0;
            for (int number = 0; number < show.size; number++) {
                Act each = show.actAt(number);
                if (each != null && each.pilot == pilot && trial.has(number)) {
                    flown++;
                }
            }
            return flown;
        }
    }
}
