/**
 * Straight code on a pile, turned line by line to settings of terms that are worked in the
 * code's order; both can be run, and do the same.
 *
 * A term is held as the cells that work it on a pile (parts ahead of what takes them), so that
 * one machine runs both sides and no walk over a term needs recursion, however deep it is.
 */
public final class TermPile {
    public static final int NONE = -1;

    private static final int MOST_ACTS = 100;
    private static final int MOST_ON_PILE = 20;
    private static final int VARIABLES = 10;

    /* Every act makes one cell at most, and one term at most that a temporary may stand for; a
       temporary costs two cells more (it is set, and it is put). */
    private static final int MOST_CELLS = 3 * MOST_ACTS;

    /* A cell's text has seven signs at most, brackets and all; what stands round a line's term
       has eight. */
    private static final int MOST_SIGNS = 8 * MOST_ACTS;
    private static final int MOST_DIGITS = 3;

    private static final int NUMBER = 0;
    private static final int VARIABLE = 1;
    private static final int SET = 2;
    private static final int GROW = 3;
    private static final int OP = 4;
    private static final int MINUS = 5;
    private static final int DROP = 6;
    private static final int DOUBLE = 7;
    private static final int SWAP = 8;
    private static final int TUCK = 9;
    private static final int CALL = 10;

    /* Kinds of cells that are no acts: only lines and terms have them. */
    private static final int TEMPORARY = 11;
    private static final int KEEP = 12;

    private static final int DIVIDE = 6;
    private static final int REMAINDER = 7;
    private static final String OP_SIGNS = "+-*&|^/%";
    private static final int[] OP_RANKS = {3, 3, 4, 2, 0, 1, 4, 4};
    private static final int MINUS_RANK = 5;

    /* Numbers need no brackets beside an op but do behind a minus: a rank of their own between
       the minus and all else says both. */
    private static final int NUMBER_RANK = 6;
    private static final int TOP_RANK = 7;

    /* By kind of act; what a call takes is its number instead. */
    private static final int[] TAKES = {0, 0, 1, 0, 2, 1, 1, 1, 2, 2, 0};
    private static final int[] PUTS = {1, 1, 0, 0, 1, 1, 0, 2, 2, 3, 1};
    private static final int[] LEAST_NUMBER = {-128, 0, 0, 0, 0, 0, 0, 0, 0, 0, 0};
    private static final int[] MOST_NUMBER = {127, 9, 9, 2559, 7, 0, 0, 0, 0, 0, 3};

    private final Code acts;
    private final Terms terms;
    private final Lines lines;
    private final long[] given;
    private final Machine actsMachine;
    private final Machine linesMachine;
    private final Scribe scribe;

    public TermPile() {
        acts = new Code();
        terms = new Terms();
        lines = terms.lines;
        given = new long[VARIABLES];
        actsMachine = new Machine();
        linesMachine = new Machine();
        scribe = new Scribe();
    }

    public int act(int kind, int n) throws IllegalArgumentException, IllegalStateException {
        if (!isAct(kind, n)) {
            throw new IllegalArgumentException("no such kind or number");
        }
        if (acts.size >= MOST_ACTS || !canBeDone(kind, n)) {
            throw new IllegalStateException("the act can't be done");
        }
        acts.add(kind, n);
        terms.tell(kind, n);
        return acts.size;
    }

    public int line(int k, int i) {
        if (k < 0 || k >= lines.size) {
            return NONE;
        }
        scribe.writeLine(lines.code, lines.endOf(k) - 1);
        return scribe.signAt(i);
    }

    public int term(int k, int i) {
        if (k < 0 || k >= terms.size) {
            return NONE;
        }
        scribe.writeOnlyTerm(terms.code, terms.endOf(k) - 1);
        return scribe.signAt(i);
    }

    public boolean give(int variable, long v) {
        if (!isVariable(variable)) {
            return false;
        }
        given[variable] = v;
        return true;
    }

    public int run(int side) throws IllegalArgumentException {
        if (!isSide(side)) {
            throw new IllegalArgumentException("no such side");
        }
        Machine machine = machineOf(side);
        machine.begin(given);
        boolean well = side == 0
                ? machine.works(acts)
                : machine.works(lines.code) && machine.works(terms.code);
        return well ? 0 : machine.calls + 1;
    }

    public long value(int side, int variable) throws IndexOutOfBoundsException {
        if (!isSide(side) || !isVariable(variable)) {
            throw new IndexOutOfBoundsException("no such side or variable");
        }
        Machine machine = machineOf(side);
        return machine.hasRun ? machine.variables[variable] : given[variable];
    }

    public long left(int side, int k) throws IndexOutOfBoundsException {
        if (!isSide(side)) {
            throw new IndexOutOfBoundsException("no such side");
        }
        Machine machine = machineOf(side);
        if (k < 0 || k >= machine.size) {
            throw new IndexOutOfBoundsException("nothing lies there");
        }
        return machine.pile[k];
    }

    public int count(int what) {
        switch (what) {
            case 0:
                return acts.size;
            case 1:
                return lines.size;
            case 2:
                return terms.temporaries;
            case 3:
                return terms.size;
            case 4:
                return actsMachine.calls;
            case 5:
                return linesMachine.calls;
            default:
                return NONE;
        }
    }

    private Machine machineOf(int side) {
        return side == 0 ? actsMachine : linesMachine;
    }

    private boolean canBeDone(int kind, int n) {
        int below = terms.size - takenBy(kind, n);
        return below >= 0 && below + PUTS[kind] <= MOST_ON_PILE;
    }

    private static boolean isSide(int side) {
        return side == 0 || side == 1;
    }

    private static boolean isVariable(int variable) {
        return variable >= 0 && variable < VARIABLES;
    }

    private static boolean isAct(int kind, int n) {
        return kind >= NUMBER && kind <= CALL && n >= LEAST_NUMBER[kind] && n <= MOST_NUMBER[kind];
    }

    private static int takenBy(int kind, int n) {
        return kind == CALL ? n : TAKES[kind];
    }

    private static int grownVariableIn(int n) {
        return n / 256;
    }

    private static int growthIn(int n) {
        return n % 256 - 128;
    }

    /** A row of cells, each of a kind with a number. */
    private static final class Code {
        private final int[] kinds = new int[MOST_CELLS];
        private final int[] numbers = new int[MOST_CELLS];
        private int size = 0;

        boolean holds(int at) {
            return at >= 0 && at < size;
        }

        int kindAt(int at) {
            return holds(at) ? kinds[at] : NONE;
        }

        int numberAt(int at) {
            return holds(at) ? numbers[at] : 0;
        }

        void add(int kind, int number) {
            if (size < MOST_CELLS) {
                kinds[size] = kind;
                numbers[size] = number;
                size++;
            }
        }

        void change(int at, int kind, int number) {
            if (holds(at)) {
                kinds[at] = kind;
                numbers[at] = number;
            }
        }

        void copyDown(int from, int to) {
            change(to, kindAt(from), numberAt(from));
        }

        void exchange(int one, int other) {
            int kind = kindAt(one);
            int number = numberAt(one);
            copyDown(other, one);
            change(other, kind, number);
        }

        void cutTo(int shorter) {
            if (shorter >= 0 && shorter < size) {
                size = shorter;
            }
        }
    }

    /** The lines that have come out: of each the cells of its term, then the one that ends it. */
    private static final class Lines {
        private final Code code = new Code();
        private final int[] ends = new int[MOST_ACTS];
        private int size = 0;

        int endOf(int k) {
            return k >= 0 && k < size ? ends[k] : code.size;
        }

        void addTerm(Code from, int start, int end) {
            for (int at = start; at < end; at++) {
                code.add(from.kindAt(at), from.numberAt(at));
            }
        }

        void close(int kind, int number) {
            code.add(kind, number);
            if (size < MOST_ACTS) {
                ends[size] = code.size;
                size++;
            }
        }
    }

    /** The pile of terms: their cells one behind the other, from below, and the lines they make. */
    private static final class Terms {
        private final Lines lines = new Lines();
        private final Code code = new Code();
        private final int[] starts = new int[MOST_ON_PILE];
        private int size = 0;
        private int temporaries = 0;

        void tell(int kind, int n) {
            switch (kind) {
                case NUMBER:
                case VARIABLE:
                case OP:
                case MINUS:
                    put(kind, n, takenBy(kind, n));
                    break;
                case CALL:
                    putOutBelow(size - n);
                    put(kind, n, n);
                    break;
                case SET:
                case DROP:
                    putOutBelow(size - 1);
                    endLineWithLast(kind, n);
                    break;
                case GROW:
                    putOutBelow(size);
                    lines.close(kind, n);
                    break;
                default:
                    putOutBelow(size);
                    turn(kind);
                    break;
            }
        }

        int startOf(int place) {
            return place >= 0 && place < size ? starts[place] : code.size;
        }

        int endOf(int place) {
            return startOf(place + 1);
        }

        /** The cells of what is taken lie last, so the new cell behind them makes one term. */
        private void put(int kind, int n, int taken) {
            int place = size - taken;
            if (place >= 0 && place < MOST_ON_PILE) {
                starts[place] = startOf(place);
                code.add(kind, n);
                size = place + 1;
            }
        }

        private void endLineWithLast(int kind, int n) {
            int start = startOf(size - 1);
            lines.addTerm(code, start, code.size);
            lines.close(kind, n);
            code.cutTo(start);
            size--;
        }

        private void putOutBelow(int places) {
            int rest = startOf(places);
            for (int place = 0; place < places; place++) {
                putOut(place);
            }
            moveDown(rest, places);
        }

        /** Leaves one cell at each place from below, so that cell and place have one number. */
        private void putOut(int place) {
            int start = startOf(place);
            int end = endOf(place);
            int kind = code.kindAt(end - 1);
            if (kind == NUMBER || kind == TEMPORARY) {
                code.copyDown(start, place);
            } else {
                lines.addTerm(code, start, end);
                lines.close(KEEP, temporaries);
                code.change(place, TEMPORARY, temporaries);
                temporaries++;
            }
            if (place >= 0 && place < MOST_ON_PILE) {
                starts[place] = place;
            }
        }

        /** Closes the gap between the places that were put out and the cells that stay whole. */
        private void moveDown(int rest, int places) {
            int gap = rest - places;
            for (int at = rest; at < code.size; at++) {
                code.copyDown(at, at - gap);
            }
            for (int place = places; place < size && place < MOST_ON_PILE; place++) {
                starts[place] -= gap;
            }
            code.cutTo(code.size - gap);
        }

        /** All has been put out ahead of this: the last places are the last cells. */
        private void turn(int kind) {
            int last = size - 1;
            if (kind == SWAP || kind == TUCK) {
                code.exchange(last - 1, last);
            }
            if (kind == DOUBLE) {
                put(code.kindAt(last), code.numberAt(last), 0);
            } else if (kind == TUCK) {
                put(code.kindAt(last - 1), code.numberAt(last - 1), 0);
            }
        }
    }

    /** Runs cells, and keeps what came of the latest run of its side. */
    private static final class Machine {
        private final long[] variables = new long[VARIABLES];
        private final long[] temporaries = new long[MOST_ACTS];
        private final long[] pile = new long[MOST_ON_PILE];
        private int size = 0;
        private int calls = 0;
        private boolean hasRun = false;

        void begin(long[] given) {
            for (int v = 0; v < VARIABLES && v < given.length; v++) {
                variables[v] = given[v];
            }
            size = 0;
            calls = 0;
            hasRun = true;
        }

        /** False for a failure, which leaves nothing on the pile. */
        boolean works(Code code) {
            for (int at = 0; at < code.size; at++) {
                if (!step(code.kindAt(at), code.numberAt(at))) {
                    size = 0;
                    return false;
                }
            }
            return true;
        }

        private boolean step(int kind, int n) {
            switch (kind) {
                case NUMBER:
                    push(n);
                    return true;
                case VARIABLE:
                    push(isVariable(n) ? variables[n] : 0);
                    return true;
                case SET:
                    setVariable(n, pop());
                    return true;
                case GROW:
                    growVariable(grownVariableIn(n), growthIn(n));
                    return true;
                case OP:
                    return workOp(n);
                case MINUS:
                    push(-pop());
                    return true;
                case DROP:
                    pop();
                    return true;
                case CALL:
                    callWith(n);
                    return true;
                case TEMPORARY:
                    push(isTemporary(n) ? temporaries[n] : 0);
                    return true;
                case KEEP:
                    setTemporary(n, pop());
                    return true;
                default:
                    turn(kind);
                    return true;
            }
        }

        private boolean workOp(int op) {
            long y = pop();
            long x = pop();
            if (op == DIVIDE || op == REMAINDER) {
                if (y == 0) {
                    return false;
                }
                push(op == DIVIDE ? x / y : x % y);
                return true;
            }
            push(worked(op, x, y));
            return true;
        }

        private static long worked(int op, long x, long y) {
            switch (op) {
                case 0:
                    return x + y;
                case 1:
                    return x - y;
                case 2:
                    return x * y;
                case 3:
                    return x & y;
                case 4:
                    return x | y;
                default:
                    return x ^ y;
            }
        }

        private void callWith(int parameters) {
            long z = parameters > 2 ? pop() : 0;
            long y = parameters > 1 ? pop() : 0;
            long x = parameters > 0 ? pop() : 0;
            calls++;
            push(31L * calls + x + 3 * y + 9 * z);
        }

        private void turn(int kind) {
            long y = pop();
            if (kind == DOUBLE) {
                push(y);
                push(y);
                return;
            }
            long x = pop();
            push(y);
            push(x);
            if (kind == TUCK) {
                push(y);
            }
        }

        private void setVariable(int variable, long v) {
            if (isVariable(variable)) {
                variables[variable] = v;
            }
        }

        private void growVariable(int variable, int by) {
            if (isVariable(variable)) {
                variables[variable] += by;
            }
        }

        private void setTemporary(int temporary, long v) {
            if (isTemporary(temporary)) {
                temporaries[temporary] = v;
            }
        }

        private static boolean isTemporary(int temporary) {
            return temporary >= 0 && temporary < MOST_ACTS;
        }

        private void push(long v) {
            if (size >= 0 && size < MOST_ON_PILE) {
                pile[size] = v;
                size++;
            }
        }

        private long pop() {
            if (size <= 0 || size > MOST_ON_PILE) {
                return 0;
            }
            size--;
            return pile[size];
        }
    }

    /**
     * Writes texts from their last sign to their first one: read from the last cell on, a term's
     * cells tell what takes parts ahead of them, as brackets need it, and the right part first.
     */
    private static final class Scribe {
        private final char[] signs = new char[MOST_SIGNS];
        private int first = MOST_SIGNS;

        /* What is still to be written, the next thing last: a sign, or (below all signs) a term,
           told by the lowest rank that stands there without brackets. */
        private final int[] waiting = new int[MOST_SIGNS];
        private int waitingSize = 0;

        int signAt(int i) {
            return i >= 0 && i < MOST_SIGNS - first ? signs[first + i] : NONE;
        }

        void writeOnlyTerm(Code code, int last) {
            first = MOST_SIGNS;
            writeTerm(code, last);
        }

        void writeLine(Code code, int last) {
            int kind = code.kindAt(last);
            int n = code.numberAt(last);
            first = MOST_SIGNS;
            write(';');
            switch (kind) {
                case SET:
                    writeTerm(code, last - 1);
                    writeText(" = ");
                    writeVariable(n);
                    break;
                case GROW:
                    writeNumber(growthIn(n));
                    writeText(" += ");
                    writeVariable(grownVariableIn(n));
                    break;
                case DROP:
                    writeTerm(code, last - 1);
                    writeText("drop ");
                    break;
                default:
                    writeTerm(code, last - 1);
                    writeText(" = ");
                    writeTemporary(n);
                    break;
            }
        }

        private void writeTerm(Code code, int last) {
            int at = last;
            waitingSize = 0;
            await(0);
            for (int step = 0; step < 2 * MOST_SIGNS && waitingSize > 0; step++) {
                waitingSize--;
                int next = waiting[waitingSize];
                if (next > TOP_RANK) {
                    write((char) next);
                } else {
                    writeCell(code.kindAt(at), code.numberAt(at), next);
                    at--;
                }
            }
        }

        private void writeCell(int kind, int n, int lowest) {
            int rank = rankOf(kind, n);
            if (rank < lowest) {
                write(')');
                await('(');
            }
            switch (kind) {
                case NUMBER:
                    writeNumber(n);
                    break;
                case VARIABLE:
                    writeVariable(n);
                    break;
                case TEMPORARY:
                    writeTemporary(n);
                    break;
                case OP:
                    await(rank);
                    await(' ');
                    await(signOf(n));
                    await(' ');
                    await(rank + 1);
                    break;
                case MINUS:
                    await('-');
                    await(TOP_RANK);
                    break;
                default:
                    write(')');
                    awaitCall(n);
                    break;
            }
        }

        private void awaitCall(int parameters) {
            await('f');
            await('(');
            for (int p = 0; p < parameters; p++) {
                if (p > 0) {
                    await(',');
                    await(' ');
                }
                await(0);
            }
        }

        private static int rankOf(int kind, int n) {
            switch (kind) {
                case OP:
                    return n >= 0 && n < OP_RANKS.length ? OP_RANKS[n] : TOP_RANK;
                case MINUS:
                    return MINUS_RANK;
                case NUMBER:
                    return NUMBER_RANK;
                default:
                    return TOP_RANK;
            }
        }

        private static char signOf(int op) {
            return op >= 0 && op < OP_SIGNS.length() ? OP_SIGNS.charAt(op) : ' ';
        }

        private void await(int next) {
            if (waitingSize < MOST_SIGNS) {
                waiting[waitingSize] = next;
                waitingSize++;
            }
        }

        private void writeVariable(int variable) {
            write((char) ('a' + variable));
        }

        private void writeTemporary(int temporary) {
            writeNumber(temporary);
            write('t');
        }

        private void writeNumber(int n) {
            int rest = n < 0 ? -n : n;
            for (int digit = 0; digit < MOST_DIGITS && (digit == 0 || rest > 0); digit++) {
                write((char) ('0' + rest % 10));
                rest /= 10;
            }
            if (n < 0) {
                write('-');
            }
        }

        private void writeText(String text) {
            for (int at = text.length() - 1; at >= 0; at--) {
                write(text.charAt(at));
            }
        }

        private void write(char sign) {
            if (first > 0) {
                first--;
                signs[first] = sign;
            }
        }
    }
}
