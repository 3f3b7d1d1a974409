import java.util.Arrays;

/**
 * A hall of machines that boot over the net. What is told (machines, files, facts, the keepers'
 * texts) is kept; what is asked is answered from one run over all ticks, which is played anew
 * only after something was told.
 */
public final class BootHall {
    public static final int NONE = -1;

    private static final int NO_STATE = -1000000;
    private static final int NO_PLAN = -2;
    private static final int CLASH = -2;

    private static final int MACHINES = 8;
    private static final int KINDS = 4;
    private static final int PLACES = 8;
    private static final int MARKS = 100;
    private static final int FILES = 6;
    private static final int BLOCKS = 12;
    private static final int KEEPERS = 2;
    private static final int FACTS = 200;
    private static final int MOST_WIDTH = 8;
    private static final int TICKS = 300;
    private static final int MOST_STEP = 20;
    // Above the cost of any plan, which is some six million.
    private static final int NO_COST = 1000000000;
    private static final int WHATS = 10;

    private static final int TAPE_ROOM = 2000;
    private static final int FEED_BYTES = 20;
    private static final int MOST_TOKENS = 400;
    private static final int MOST_RULES = 20;
    private static final int MOST_OPEN = 6;
    // Six brackets within one another need 18 operands and 23 operators at once at the most.
    private static final int STACK_ROOM = 32;

    private static final int OFF = 0;
    private static final int ASKS = 1;
    private static final int FETCHES = 2;
    private static final int INSTALLS = 3;
    private static final int UP = 4;
    private static final int RESCUE = 5;

    private static final int NO_ANSWER = 1;
    private static final int CLASHED = 2;
    private static final int TOO_BAD = 3;
    private static final int TOO_MISSED = 4;
    private static final int NO_CHAIN = 5;

    private static final int MOST_TRIES = 5;
    private static final int MOST_BAD = 4;
    private static final int MOST_MISSES = 12;
    private static final int MOST_CHAIN = 4;
    private static final int CUT_TICKS = 3;

    private static final int SYNTAX = 1;
    private static final int ROOM = 2;
    private static final int WRONG = 5;

    // What an operator is in code; the order is that of OPERATOR_RANKS.
    private static final int BRACKET = 0;
    private static final int OR = 1;
    private static final int AND = 2;
    private static final int EQUAL = 3;
    private static final int UNEQUAL = 4;
    private static final int LESS = 5;
    private static final int AT_MOST = 6;
    private static final int PLUS = 7;
    private static final int MINUS = 8;
    private static final int TIMES = 9;
    private static final int FIRST_VAR = 16;
    private static final int VARS = 7;
    private static final int[] OPERATOR_RANKS = {0, 1, 2, 3, 3, 3, 3, 4, 4, 5};

    // The sorts of tokens.
    private static final int END = 0;
    private static final int NO_TOKEN = 1;
    private static final int INT = 2;
    private static final int VAR = 3;
    private static final int FILE = 4;
    private static final int AFTER = 5;
    private static final int IF = 6;
    private static final int JOIN = 7;
    private static final int RELATION = 8;
    private static final int MATH = 9;
    private static final int OPEN = 10;
    private static final int CLOSE = 11;
    private static final int SEMICOLON = 12;

    // The words of the texts, their letters' bytes in one long: file after if or and, then the VARS.
    private static final long[] WORDS = {
        0x66696C65L, 0x6166746572L, 0x6966L, 0x6F72L, 0x616E64L,
        0x6B696E64L, 0x706C616365L, 0x6D61726BL, 0x7472696573L, 0x626164L, 0x626567756EL, 0x7469636BL};
    private static final int[] WORD_SORTS = {FILE, AFTER, IF, JOIN, JOIN, VAR, VAR, VAR, VAR, VAR, VAR, VAR};
    private static final int[] WORD_VALUES = {0, 0, 0, OR, AND, 0, 1, 2, 3, 4, 5, 6};

    // What may come next in a text.
    private static final int AT_RULE = 0;
    private static final int AT_FILE = 1;
    private static final int BEHIND_FILE = 2;
    private static final int AT_KIND = 3;
    private static final int BEHIND_KIND = 4;
    private static final int AT_UNIT = 5;
    private static final int BEHIND_UNIT = 6;
    private static final int AT_END = 7;

    // Where state()'s answers, each raised by one, begin in a snapshot.
    private static final int[] SHIFTS = {0, 4, 8, 12, 16, 20, 24, 28, 32, 40, 44};

    private final Tape tape;
    private final Reader reader;
    private final Hall hall;
    private final Run run;
    private boolean stale;

    public BootHall() {
        Tape bytes = new Tape();
        Hall told = new Hall();
        tape = bytes;
        reader = new Reader(bytes);
        hall = told;
        run = new Run(told);
        stale = true;
    }

    public int feed(int a, int b, int c, int d, int e) {
        if (tape.length + FEED_BYTES > TAPE_ROOM) {
            return NONE;
        }
        tape.append(a);
        tape.append(b);
        tape.append(c);
        tape.append(d);
        tape.append(e);
        return tape.length;
    }

    public int back(int n) {
        if (n < 0 || n > tape.length) {
            return NONE;
        }
        tape.length -= n;
        return tape.length;
    }

    public int read(int keeper) {
        if (!isBelow(keeper, KEEPERS)) {
            return NONE;
        }
        int fault = reader.compile();
        tape.length = 0;
        if (fault == 0) {
            hall.keepers[keeper] = reader.exchange(hall.keepers[keeper]);
            stale = true;
        }
        return fault;
    }

    public int place() {
        return reader.faultPlace;
    }

    public int machine(int kind, int place, int mark) {
        if (hall.machineCount >= MACHINES || !isBelow(kind, KINDS) || !isBelow(place, PLACES) || !isBelow(mark, MARKS)) {
            return NONE;
        }
        stale = true;
        return hall.addMachine(kind, place, mark);
    }

    public int file(int blocks, int next) {
        if (hall.fileCount >= FILES || blocks < 1 || blocks > BLOCKS || next < NONE || next >= FILES) {
            return NONE;
        }
        stale = true;
        return hall.addFile(blocks, next);
    }

    public boolean width(int w) {
        if (w < 1 || w > MOST_WIDTH) {
            return false;
        }
        hall.width = w;
        stale = true;
        return true;
    }

    public boolean wake(int kind, int tick) {
        if (!isBelow(kind, KINDS) || !isBelow(tick, TICKS)) {
            return false;
        }
        hall.wakes[kind] = tick;
        stale = true;
        return true;
    }

    public int lose(int machine, int tick) {
        if (hall.facts.isFull() || !isBelow(machine, hall.machineCount) || !isBelow(tick, TICKS)) {
            return NONE;
        }
        stale = true;
        return hall.facts.addLost(machine, tick);
    }

    public int spoil(int file, int block, int tick) {
        if (hall.facts.isFull() || !hall.hasBlock(file, block) || !isBelow(tick, TICKS)) {
            return NONE;
        }
        stale = true;
        return hall.facts.addWrong(file * BLOCKS + block, tick);
    }

    public int down(int keeper, int a, int b) {
        if (hall.facts.isFull() || !isBelow(keeper, KEEPERS) || !isBelow(a, b) || b > TICKS) {
            return NONE;
        }
        stale = true;
        return hall.facts.addDown(keeper, a, b);
    }

    public int cut(int machine, int tick) {
        if (hall.facts.isFull() || !isBelow(machine, hall.machineCount) || !isBelow(tick, TICKS)) {
            return NONE;
        }
        stale = true;
        return hall.facts.addCut(machine, tick);
    }

    public int answer(int keeper, int machine, int tick) {
        if (!isBelow(keeper, KEEPERS) || !isBelow(machine, hall.machineCount) || !isBelow(tick, TICKS)) {
            return NONE;
        }
        freshen();
        return run.answerAtEnd(keeper, machine, tick);
    }

    public int state(int machine, int tick, int what) {
        if (!isBelow(machine, hall.machineCount) || !isBelow(tick, TICKS) || !isBelow(what, WHATS)) {
            return NO_STATE;
        }
        freshen();
        return run.recorded(machine, tick, what);
    }

    public int sends(int tick) {
        if (!isBelow(tick, TICKS)) {
            return NONE;
        }
        freshen();
        return run.sendings[tick];
    }

    public int sent(int file, int block) {
        if (!hall.hasBlock(file, block)) {
            return NONE;
        }
        freshen();
        return run.timesSent[file * BLOCKS + block];
    }

    public int ends() {
        freshen();
        return endOrNone(run.settledFrom());
    }

    public int up() {
        freshen();
        return run.upBits();
    }

    public int log(int machine, int i) {
        if (!isBelow(machine, hall.machineCount) || i < 0) {
            return NONE;
        }
        freshen();
        return run.change(machine, i);
    }

    public int plan(int s) {
        if (s < 1 || s > MOST_STEP) {
            return NO_PLAN;
        }
        int choices = 1 << (2 * KINDS);
        int best = 0;
        int bestCost = NO_COST;
        int bestEnd = TICKS;
        for (int choice = 0; choice < choices; choice++) {
            if (hall.setWakes(choice, s)) {
                run.play(false);
                int cost = run.cost();
                // Choices come in the order of their WAKES, so of equal ones the first stays.
                if (cost < bestCost) {
                    best = choice;
                    bestCost = cost;
                    bestEnd = run.settledFrom();
                }
            }
        }
        hall.setWakes(best, s);
        stale = true;
        return endOrNone(bestEnd);
    }

    public int wakes(int kind) {
        return isBelow(kind, KINDS) ? hall.wakes[kind] : NONE;
    }

    public int count(int what) {
        switch (what) {
            case 0:
                return hall.machineCount;
            case 1:
                return hall.fileCount;
            case 2:
                return hall.keepers[0].size;
            case 3:
                return hall.keepers[1].size;
            case 4:
                return hall.facts.told;
            case 5:
                return hall.width;
            case 6:
                freshen();
                return run.allSent;
            case 7:
                return tape.length;
            default:
                return NONE;
        }
    }

    private void freshen() {
        if (stale) {
            run.play(true);
            stale = false;
        }
    }

    private static int endOrNone(int end) {
        return end < TICKS ? end : NONE;
    }

    private static boolean isBelow(int n, int bound) {
        return n >= 0 && n < bound;
    }

    /** The bytes that wait to be read, each 0 .. 255. */
    private static final class Tape {
        final int[] bytes = new int[TAPE_ROOM];
        int length;

        void append(int word) {
            for (int shift = 24; shift >= 0 && length < TAPE_ROOM; shift -= 8) {
                bytes[length] = (word >>> shift) & 255;
                length++;
            }
        }
    }

    /** Cuts a tape into tokens; the fields tell of the latest one. */
    private static final class Scanner {
        private final Tape tape;
        private int next;
        int at;
        int sort;
        int value;

        Scanner(Tape scanned) {
            tape = scanned;
        }

        void restart() {
            next = 0;
        }

        void advance() {
            while (next < tape.length && isBlank(tape.bytes[next])) {
                next++;
            }
            at = next;
            value = 0;
            if (next >= tape.length) {
                sort = END;
            } else if (isLetter(tape.bytes[next])) {
                scanWord();
            } else if (isDigit(tape.bytes[next])) {
                scanInt();
            } else {
                scanSign();
            }
        }

        private void scanWord() {
            long letters = 0;
            while (next < tape.length && isLetter(tape.bytes[next])) {
                letters = (letters << 8) | tape.bytes[next];
                next++;
            }
            // A word that the texts do not know is as wrong as no token at all. A run too long for
            // a word has a letter in each of the eight bytes, so it is none of those known.
            sort = NO_TOKEN;
            for (int i = 0; i < WORDS.length; i++) {
                if (WORDS[i] == letters) {
                    sort = WORD_SORTS[i];
                    value = WORD_VALUES[i];
                }
            }
        }

        private void scanInt() {
            while (next < tape.length && isDigit(tape.bytes[next])) {
                value = value * 10 + tape.bytes[next] - '0';
                next++;
            }
            sort = next - at <= 4 ? INT : NO_TOKEN;
        }

        private void scanSign() {
            int sign = tape.bytes[next];
            next++;
            switch (sign) {
                case ';':
                    sort = SEMICOLON;
                    break;
                case '(':
                    sort = OPEN;
                    break;
                case ')':
                    sort = CLOSE;
                    break;
                case '+':
                    set(MATH, PLUS);
                    break;
                case '-':
                    set(MATH, MINUS);
                    break;
                case '*':
                    set(MATH, TIMES);
                    break;
                default:
                    scanRelation(sign);
                    break;
            }
        }

        private void scanRelation(int sign) {
            boolean doubled = next < tape.length && tape.bytes[next] == '=';
            if (sign == '<') {
                set(RELATION, doubled ? AT_MOST : LESS);
            } else if (doubled && (sign == '=' || sign == '!')) {
                set(RELATION, sign == '=' ? EQUAL : UNEQUAL);
            } else {
                sort = NO_TOKEN;
                return;
            }
            if (doubled) {
                next++;
            }
        }

        private void set(int newSort, int newValue) {
            sort = newSort;
            value = newValue;
        }

        private static boolean isBlank(int b) {
            return b == 32 || b == 9 || b == 10 || b == 13;
        }

        private static boolean isLetter(int b) {
            return b >= 'a' && b <= 'z';
        }

        private static boolean isDigit(int b) {
            return b >= '0' && b <= '9';
        }
    }

    /** Turns a tape into rules, or finds its first fault. */
    private static final class Reader {
        private final Scanner scanner;
        private final int[] operators = new int[STACK_ROOM];
        private int pending;
        // No keeper's yet, so that a text with a fault changes nothing.
        private Rules rules = new Rules();
        private int expected;
        private int open;
        private boolean related;
        private int firstWrong;
        int faultPlace = NONE;

        Reader(Tape tape) {
            scanner = new Scanner(tape);
        }

        /** Gives the rules that were read for old ones, which the next text is read into. */
        Rules exchange(Rules old) {
            Rules done = rules;
            rules = old;
            return done;
        }

        /** The number of the first fault, 0 if there is none. */
        int compile() {
            begin();
            for (int tokens = 0; tokens <= MOST_TOKENS; tokens++) {
                scanner.advance();
                int then = following(scanner.sort);
                if (then == NONE) {
                    faultPlace = scanner.at;
                    return SYNTAX;
                }
                if (then == AT_END) {
                    faultPlace = firstWrong;
                    return firstWrong == NONE ? 0 : WRONG;
                }
                if (tokens == MOST_TOKENS || isOverfull()) {
                    faultPlace = scanner.at;
                    return ROOM;
                }
                take();
                expected = then;
            }
            return ROOM;
        }

        private void begin() {
            scanner.restart();
            rules.clear();
            pending = 0;
            expected = AT_RULE;
            open = 0;
            related = false;
            firstWrong = NONE;
        }

        /** What is expected behind a token of this sort, or NONE if no text goes on with it. */
        private int following(int sort) {
            switch (expected) {
                case AT_RULE:
                    return sort == FILE ? AT_FILE : sort == AFTER ? AT_KIND : sort == END ? AT_END : NONE;
                case AT_FILE:
                    return sort == INT ? BEHIND_FILE : NONE;
                case BEHIND_FILE:
                    return sort == IF ? AT_UNIT : sort == SEMICOLON ? AT_RULE : NONE;
                case AT_KIND:
                    return sort == INT ? BEHIND_KIND : NONE;
                case BEHIND_KIND:
                    return sort == IF ? AT_UNIT : NONE;
                case AT_UNIT:
                    return sort == INT || sort == VAR ? BEHIND_UNIT : sort == OPEN ? AT_UNIT : NONE;
                default:
                    return followingUnit(sort);
            }
        }

        private int followingUnit(int sort) {
            if (sort == MATH) {
                return AT_UNIT;
            }
            if (open > 0) {
                return sort == CLOSE ? BEHIND_UNIT : NONE;
            }
            if (!related) {
                return sort == RELATION ? AT_UNIT : NONE;
            }
            return sort == JOIN ? AT_UNIT : sort == SEMICOLON ? AT_RULE : NONE;
        }

        private boolean isOverfull() {
            return (expected == AT_RULE && rules.size >= MOST_RULES) || (scanner.sort == OPEN && open >= MOST_OPEN);
        }

        private void take() {
            switch (expected) {
                case AT_RULE:
                    rules.add(scanner.sort == AFTER);
                    break;
                case AT_FILE:
                    takeNumber(FILES);
                    break;
                case AT_KIND:
                    takeNumber(KINDS);
                    break;
                case AT_UNIT:
                    takeUnit();
                    break;
                case BEHIND_UNIT:
                    takeBehindUnit();
                    break;
                default:
                    related = false;
                    break;
            }
        }

        private void takeNumber(int bound) {
            if (scanner.value >= bound && firstWrong == NONE) {
                firstWrong = scanner.at;
            }
            rules.setNumber(scanner.value);
        }

        private void takeUnit() {
            if (scanner.sort == OPEN) {
                open++;
                push(BRACKET);
            } else {
                rules.emit(scanner.sort == VAR ? ~(FIRST_VAR + scanner.value) : scanner.value);
            }
        }

        private void takeBehindUnit() {
            switch (scanner.sort) {
                case CLOSE:
                    emitDownTo(1);
                    pending = Math.max(0, pending - 1);
                    open--;
                    break;
                case SEMICOLON:
                    emitDownTo(1);
                    break;
                default:
                    emitDownTo(OPERATOR_RANKS[scanner.value]);
                    push(scanner.value);
                    related = scanner.sort == RELATION || (related && scanner.sort == MATH);
                    break;
            }
        }

        /** Operators that bind at least as tightly as this rank have all their operands; a bracket stops them. */
        private void emitDownTo(int rank) {
            while (pending > 0 && OPERATOR_RANKS[operators[pending - 1]] >= rank) {
                pending--;
                rules.emit(~operators[pending]);
            }
        }

        private void push(int operator) {
            if (pending < STACK_ROOM) {
                operators[pending] = operator;
                pending++;
            }
        }
    }

    /** A keeper's rules; conditions stand as code behind whose operands their operators come. */
    private static final class Rules {
        int size;
        private int codeLength;
        private final boolean[] isAfter = new boolean[MOST_RULES];
        private final int[] numbers = new int[MOST_RULES];
        private final int[] starts = new int[MOST_RULES];
        private final int[] stops = new int[MOST_RULES];
        // An int stands for itself; an operator or a VAR is turned over, so below 0.
        private final int[] code = new int[MOST_TOKENS];
        private final int[] stack = new int[STACK_ROOM];

        void clear() {
            size = 0;
            codeLength = 0;
        }

        void add(boolean after) {
            if (size < MOST_RULES) {
                isAfter[size] = after;
                starts[size] = codeLength;
                stops[size] = codeLength;
                size++;
            }
        }

        void setNumber(int number) {
            if (size > 0) {
                numbers[size - 1] = number;
            }
        }

        void emit(int instruction) {
            if (size > 0 && codeLength < MOST_TOKENS) {
                code[codeLength] = instruction;
                codeLength++;
                stops[size - 1] = codeLength;
            }
        }

        /** The FILE of the rules that hold, NONE, or CLASH. */
        int choose(int[] vars, int fileCount) {
            int chosen = NONE;
            for (int rule = 0; rule < size; rule++) {
                if (!isAfter[rule] && holds(rule, vars)) {
                    if (chosen != NONE && chosen != numbers[rule]) {
                        return CLASH;
                    }
                    chosen = numbers[rule];
                }
            }
            return chosen < fileCount ? chosen : CLASH;
        }

        /** The KINDS that must be UP ahead, as bits. */
        int kindsAhead(int[] vars) {
            int kinds = 0;
            for (int rule = 0; rule < size; rule++) {
                if (isAfter[rule] && holds(rule, vars)) {
                    kinds |= 1 << numbers[rule];
                }
            }
            return kinds;
        }

        private boolean holds(int rule, int[] vars) {
            if (starts[rule] == stops[rule]) {
                return true;
            }
            int top = 0;
            for (int i = starts[rule]; i < stops[rule]; i++) {
                int instruction = code[i];
                int turned = ~instruction;
                if (turned < 0 || turned >= FIRST_VAR) {
                    if (top < STACK_ROOM) {
                        stack[top] = turned < 0 ? instruction : valueOf(turned - FIRST_VAR, vars);
                        top++;
                    }
                } else if (top >= 2) {
                    top--;
                    stack[top - 1] = apply(turned, stack[top - 1], stack[top]);
                }
            }
            return stack[0] != 0;
        }

        private static int valueOf(int index, int[] vars) {
            return index < vars.length ? vars[index] : 0;
        }

        private static int apply(int operator, int left, int right) {
            switch (operator) {
                case OR:
                    return left | right;
                case AND:
                    return left & right;
                case EQUAL:
                    return left == right ? 1 : 0;
                case UNEQUAL:
                    return left != right ? 1 : 0;
                case LESS:
                    return left < right ? 1 : 0;
                case AT_MOST:
                    return left <= right ? 1 : 0;
                case PLUS:
                    return left + right;
                case MINUS:
                    return left - right;
                default:
                    return left * right;
            }
        }
    }

    /** The facts told, kept by tick, so that a run need not search for them. */
    private static final class Facts {
        private static final int CUT_SHIFT = 8;
        private static final int DOWN_SHIFT = 16;
        // 72 blocks are more than a long has bits, so each tick has two of them.
        private static final int WORD_BLOCKS = 36;

        int told;
        int lastCut = NONE;
        private final int[] bits = new int[TICKS];
        private final long[] wrong = new long[2 * TICKS];

        boolean isFull() {
            return told >= FACTS;
        }

        int addLost(int machine, int tick) {
            bits[tick] |= 1 << machine;
            return told++;
        }

        int addCut(int machine, int tick) {
            bits[tick] |= 1 << (CUT_SHIFT + machine);
            lastCut = Math.max(lastCut, tick);
            return told++;
        }

        int addDown(int keeper, int from, int behind) {
            for (int tick = from; tick < behind; tick++) {
                bits[tick] |= 1 << (DOWN_SHIFT + keeper);
            }
            return told++;
        }

        int addWrong(int block, int tick) {
            wrong[2 * tick + block / WORD_BLOCKS] |= 1L << (block % WORD_BLOCKS);
            return told++;
        }

        boolean isLost(int machine, int tick) {
            return (bits[tick] >>> machine & 1) != 0;
        }

        boolean isCut(int machine, int tick) {
            return (bits[tick] >>> (CUT_SHIFT + machine) & 1) != 0;
        }

        boolean isDown(int keeper, int tick) {
            return (bits[tick] >>> (DOWN_SHIFT + keeper) & 1) != 0;
        }

        boolean isWrong(int block, int tick) {
            return (wrong[2 * tick + block / WORD_BLOCKS] >>> (block % WORD_BLOCKS) & 1) != 0;
        }
    }

    /** All that has been told. */
    private static final class Hall {
        final Machine[] machines = new Machine[MACHINES];
        int machineCount;
        final int[] blocks = new int[FILES];
        final int[] nexts = new int[FILES];
        int fileCount;
        int width = 2;
        final int[] wakes = new int[KINDS];
        final Facts facts = new Facts();
        final Rules[] keepers = new Rules[KEEPERS];

        Hall() {
            for (int i = 0; i < MACHINES; i++) {
                machines[i] = new Machine();
            }
            for (int i = 0; i < KEEPERS; i++) {
                keepers[i] = new Rules();
            }
        }

        int addMachine(int kind, int place, int mark) {
            Machine added = machines[machineCount];
            added.kind = kind;
            added.place = place;
            added.mark = mark;
            return machineCount++;
        }

        int addFile(int blockCount, int next) {
            blocks[fileCount] = blockCount;
            nexts[fileCount] = next;
            return fileCount++;
        }

        boolean hasBlock(int file, int block) {
            return isBelow(file, fileCount) && isBelow(block, blocks[file]);
        }

        /** Two bits of the choice for each KIND, KIND 0's the highest; false if one without MACHINES would not be 0. */
        boolean setWakes(int choice, int step) {
            for (int kind = 0; kind < KINDS; kind++) {
                int steps = choice >>> (2 * (KINDS - 1 - kind)) & 3;
                if (steps != 0 && !hasKind(kind)) {
                    return false;
                }
                wakes[kind] = steps * step;
            }
            return true;
        }

        private boolean hasKind(int kind) {
            for (int i = 0; i < machineCount; i++) {
                if (machines[i].kind == kind) {
                    return true;
                }
            }
            return false;
        }

        /** Whether a MACHINE of these KINDS (bits), other than this one, is not UP. */
        boolean mustWait(int machine, int kinds) {
            for (int i = 0; i < machineCount; i++) {
                Machine other = machines[i];
                if (i != machine && (kinds >>> other.kind & 1) != 0 && other.phase != UP) {
                    return true;
                }
            }
            return false;
        }
    }

    /** A MACHINE: what was told of it, and how it stands in the run that is played. */
    private static final class Machine {
        int kind;
        int place;
        int mark;
        int phase;
        int file;
        int block;
        int disk;
        int reason;
        int tries;
        int bad;
        int misses;
        int begun;
        int chain;
        int asksFrom;
        int since;
        int offUntil;

        void reset() {
            begun = 0;
            disk = NONE;
            offUntil = 0;
            enter(OFF);
            clearTallies();
        }

        void losePower(int tick) {
            enter(OFF);
            clearTallies();
            offUntil = tick + CUT_TICKS;
        }

        void begin(int tick) {
            enter(ASKS);
            clearTallies();
            begun++;
            asksFrom = tick;
        }

        void failToAsk(int why, int tick) {
            tries++;
            if (tries >= MOST_TRIES) {
                enterRescue(why);
            } else {
                asksFrom = tick + (1 << tries);
            }
        }

        void fetch(int wanted, int links, int from) {
            enter(FETCHES);
            file = wanted;
            block = 0;
            chain = links;
            since = from;
        }

        void getNone() {
            misses++;
            if (misses >= MOST_MISSES) {
                enterRescue(TOO_MISSED);
            }
        }

        void getWrong() {
            bad++;
            if (bad >= MOST_BAD) {
                enterRescue(TOO_BAD);
            }
        }

        void install(int from) {
            phase = INSTALLS;
            block = 0;
            since = from;
        }

        void write(int blockCount) {
            if (block < blockCount) {
                block++;
            } else {
                disk = file;
                enter(UP);
            }
        }

        void enterRescue(int why) {
            enter(RESCUE);
            reason = why;
        }

        boolean isSettled() {
            return phase == UP || phase == RESCUE;
        }

        /** All of state()'s answers in one long, so that a run's record stays small. */
        long snapshot() {
            long low = (phase + 1) | (file + 1) << 4 | (block + 1) << 8 | (disk + 1) << 12
                | (reason + 1) << 16 | (tries + 1) << 20 | (bad + 1) << 24;
            long high = (misses + 1) | (begun + 1) << 4 | (chain + 1) << 12;
            return high << 28 | low;
        }

        private void enter(int newPhase) {
            phase = newPhase;
            file = NONE;
            block = NONE;
            reason = 0;
            chain = 0;
        }

        private void clearTallies() {
            tries = 0;
            bad = 0;
            misses = 0;
        }
    }

    /** One run of the hall over its ticks. */
    private static final class Run {
        private final Hall hall;
        private final long[] record = new long[MACHINES * TICKS];
        final int[] sendings = new int[TICKS];
        final int[] timesSent = new int[FILES * BLOCKS];
        private final int[] lastSent = new int[FILES * BLOCKS];
        int allSent;
        private int lastUnsettled;
        private final int[] line = new int[MACHINES];
        private final int[] vars = new int[VARS];

        Run(Hall played) {
            hall = played;
        }

        /** Plays all ticks; without a record only as far as something can still change. */
        void play(boolean keepsRecord) {
            reset();
            for (int tick = 0; tick < TICKS; tick++) {
                power(tick);
                ask(tick);
                send(tick);
                install(tick);
                if (!isSettled()) {
                    lastUnsettled = tick;
                } else if (!keepsRecord && tick >= hall.facts.lastCut) {
                    return;
                }
                if (keepsRecord) {
                    keep(tick);
                }
            }
        }

        private void reset() {
            Arrays.fill(timesSent, 0);
            Arrays.fill(lastSent, NONE);
            allSent = 0;
            lastUnsettled = NONE;
            for (int i = 0; i < hall.machineCount; i++) {
                hall.machines[i].reset();
            }
        }

        private void power(int tick) {
            for (int i = 0; i < hall.machineCount; i++) {
                Machine machine = hall.machines[i];
                if (hall.facts.isCut(i, tick)) {
                    machine.losePower(tick);
                } else if (machine.phase == OFF && tick >= machine.offUntil && tick >= hall.wakes[machine.kind]) {
                    machine.begin(tick);
                }
            }
        }

        private void ask(int tick) {
            for (int i = 0; i < hall.machineCount; i++) {
                Machine machine = hall.machines[i];
                if (machine.phase == ASKS && tick >= machine.asksFrom) {
                    question(i, machine, tick);
                }
            }
        }

        private void question(int number, Machine machine, int tick) {
            int heard = NONE;
            int kindsAhead = 0;
            if (!hall.facts.isLost(number, tick)) {
                setVars(machine, machine.tries, machine.bad, machine.begun, tick);
                for (int keeper = 0; keeper < KEEPERS && heard == NONE; keeper++) {
                    if (!hall.facts.isDown(keeper, tick)) {
                        heard = hall.keepers[keeper].choose(vars, hall.fileCount);
                        kindsAhead = heard < 0 ? 0 : hall.keepers[keeper].kindsAhead(vars);
                    }
                }
            }
            if (heard < 0) {
                machine.failToAsk(heard == CLASH ? CLASHED : NO_ANSWER, tick);
            } else if (hall.mustWait(number, kindsAhead)) {
                machine.asksFrom = tick + 1;
            } else {
                machine.fetch(heard, 1, tick + 1);
            }
        }

        private void setVars(Machine machine, int tries, int bad, int begun, int tick) {
            vars[0] = machine.kind;
            vars[1] = machine.place;
            vars[2] = machine.mark;
            vars[3] = tries;
            vars[4] = bad;
            vars[5] = begun;
            vars[6] = tick;
        }

        private void send(int tick) {
            int wanting = lineUp(tick);
            int sendingsNow = 0;
            for (int i = 0; i < wanting && sendingsNow < hall.width; i++) {
                int block = wantedBlock(hall.machines[line[i]]);
                if (lastSent[block] != tick) {
                    lastSent[block] = tick;
                    timesSent[block]++;
                    sendingsNow++;
                }
            }
            sendings[tick] = sendingsNow;
            allSent += sendingsNow;
            for (int i = 0; i < wanting; i++) {
                receive(line[i], tick);
            }
        }

        /** Those who want a block, the longest at it ahead: how many. */
        private int lineUp(int tick) {
            int wanting = 0;
            for (int i = 0; i < hall.machineCount; i++) {
                Machine machine = hall.machines[i];
                if (machine.phase == FETCHES && machine.since <= tick) {
                    int at = wanting;
                    while (at > 0 && hall.machines[line[at - 1]].since > machine.since) {
                        line[at] = line[at - 1];
                        at--;
                    }
                    line[at] = i;
                    wanting++;
                }
            }
            return wanting;
        }

        private static int wantedBlock(Machine machine) {
            return machine.file * BLOCKS + machine.block;
        }

        private void receive(int number, int tick) {
            Machine machine = hall.machines[number];
            int block = wantedBlock(machine);
            if (lastSent[block] != tick || hall.facts.isLost(number, tick)) {
                machine.getNone();
            } else if (hall.facts.isWrong(block, tick)) {
                machine.getWrong();
            } else {
                machine.misses = 0;
                machine.block++;
                if (machine.block >= hall.blocks[machine.file]) {
                    goOn(machine, tick + 1);
                }
            }
        }

        private void goOn(Machine machine, int from) {
            int next = hall.nexts[machine.file];
            int links = machine.chain + 1;
            if (next == NONE) {
                machine.install(from);
            } else if (links >= MOST_CHAIN || next >= hall.fileCount) {
                machine.enterRescue(NO_CHAIN);
            } else {
                machine.fetch(next, links, from);
            }
        }

        private void install(int tick) {
            for (int i = 0; i < hall.machineCount; i++) {
                Machine machine = hall.machines[i];
                if (machine.phase == INSTALLS && machine.since <= tick) {
                    machine.write(hall.blocks[machine.file]);
                }
            }
        }

        private boolean isSettled() {
            for (int i = 0; i < hall.machineCount; i++) {
                if (!hall.machines[i].isSettled()) {
                    return false;
                }
            }
            return true;
        }

        private void keep(int tick) {
            for (int i = 0; i < hall.machineCount; i++) {
                record[i * TICKS + tick] = hall.machines[i].snapshot();
            }
        }

        int recorded(int machine, int tick, int what) {
            int width = SHIFTS[what + 1] - SHIFTS[what];
            int raised = (int) (record[machine * TICKS + tick] >>> SHIFTS[what]) & ((1 << width) - 1);
            return raised - 1;
        }

        int answerAtEnd(int keeper, int machine, int tick) {
            setVars(hall.machines[machine], recorded(machine, tick, 5), recorded(machine, tick, 6),
                recorded(machine, tick, 8), tick);
            return hall.keepers[keeper].choose(vars, hall.fileCount);
        }

        int change(int machine, int index) {
            int before = OFF;
            int changes = 0;
            for (int tick = 0; tick < TICKS; tick++) {
                int phase = recorded(machine, tick, 0);
                if (phase != before) {
                    if (changes == index) {
                        return 10 * tick + phase;
                    }
                    changes++;
                    before = phase;
                }
            }
            return NONE;
        }

        /** The first TICK from which on all are settled; TICKS if there is none. */
        int settledFrom() {
            return hall.machineCount == 0 ? TICKS : lastUnsettled + 1;
        }

        int upBits() {
            int bits = 0;
            for (int i = 0; i < hall.machineCount; i++) {
                if (hall.machines[i].phase == UP) {
                    bits |= 1 << i;
                }
            }
            return bits;
        }

        /** The less, the better a plan: few that are not UP, then an early end, then few blocks sent. */
        int cost() {
            int notUp = hall.machineCount - Integer.bitCount(upBits());
            return (notUp * (TICKS + 1) + settledFrom()) * (MOST_WIDTH * TICKS + 1) + allSent;
        }
    }
}
