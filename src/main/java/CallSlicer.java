import java.util.Arrays;

/**
 * A slicer over calls, for small programs of procedures that share their fields.
 *
 * A UNIT is a statement (its number) or a procedure (40 and its number). A unit has 13 PARTS: the statement
 * itself or the procedure's BEGIN (part 0), IN 0 .. 5 (parts 1 .. 6), OUT 0 .. 5 (parts 7 .. 12). A place is
 * a part of a unit; a set of places is a row of 13 longs, one for each part, with a bit for each unit. Along
 * ways the unit of a procedure stands for its END.
 */
public final class CallSlicer {
    public static final int NONE = -1;

    private static final int NOTHING = -2;
    private static final int FAULTY = -2;
    private static final int TAPE_BYTES = 500;
    private static final int STATEMENTS = 40;
    private static final int PROCEDURES = 5;
    private static final int UNITS = STATEMENTS + PROCEDURES;
    private static final int DEEPEST = 6;
    /** A try takes 6 bytes of the text and a statement 3, so fewer items than this go into it. */
    private static final int ITEMS = 128;

    private static final int VARIABLES = 6;
    private static final int FIELDS = 4;
    private static final int NAMES = VARIABLES + FIELDS;

    private static final int PORTS = 6;
    private static final int PARTS = 1 + 2 * PORTS;
    private static final int IN = 1;
    private static final int OUT = IN + PORTS;
    private static final int OUT_HOW = OUT + 1;
    private static final int FIELD_PORT = 2;

    private static final long STATEMENT_BITS = (1L << STATEMENTS) - 1L;

    private static final int SET = 0;
    private static final int CALL = 1;
    private static final int TEST = 2;
    private static final int LOOP = 3;
    private static final int THROW = 4;
    private static final int RETURN = 5;

    private static final int RETURNED = 0;
    private static final int THROWN = 1;
    private static final int CUT = 2;

    private final byte[] tape = new byte[TAPE_BYTES];
    private int taped = 0;
    private int latestFault = 0;
    private Code code = new Code();
    private Code spare = new Code();
    private final Reader reader = new Reader(spare);
    private final Slicing slicing = new Slicing(code);
    private final Machine machine = new Machine(code);

    public CallSlicer() {
    }

    // ---- the program

    public int feed(int a, int b, int c, int d, int e) {
        if (taped + 20 > TAPE_BYTES) {
            return NONE;
        }
        putFour(a);
        putFour(b);
        putFour(c);
        putFour(d);
        putFour(e);
        return taped;
    }

    private void putFour(int number) {
        for (int shift = 24; shift >= 0 && taped < TAPE_BYTES; shift -= 8) {
            tape[taped] = (byte) (number >>> shift);
            taped++;
        }
    }

    public boolean end(int n) {
        if (n < 0 || n > taped) {
            return false;
        }
        taped = n;
        return true;
    }

    public int program() {
        int length = taped;
        taped = 0;
        latestFault = reader.read(tape, length, spare);
        if (latestFault != 0) {
            return FAULTY;
        }
        Code old = code;
        code = spare;
        spare = old;
        slicing.forget();
        machine.forget();
        return code.statements;
    }

    public int fault() {
        return latestFault;
    }

    public int count(int what) {
        switch (what) {
            case 0: return code.statements;
            case 1: return code.procedures;
            case 2: return Long.bitCount(code.calls);
            case 3: return code.mayThrow;
            case 4: return code.mayReturn;
            case 5: return taped;
            default: return NONE;
        }
    }

    public int of(int statement, int what) {
        if (!isStatement(statement)) {
            return NONE;
        }
        switch (what) {
            case 0: return code.kind[statement];
            case 1: return code.owner[statement];
            case 2: return code.depth[statement];
            case 3: return code.callee[statement];
            case 4: return code.at[statement];
            case 5: return code.catchFirst[statement];
            case 6: return code.decides(statement) ? 1 : 0;
            default: return NONE;
        }
    }

    // ---- on what it hangs

    public int hangs(int y, int x) {
        if (!isStatement(y) || !isStatement(x)) {
            return 0;
        }
        slicing.prepare(code);
        return slicing.hanging.kindsBetween(y, x);
    }

    public long begun(int procedure) {
        if (!isProcedure(procedure)) {
            return 0L;
        }
        slicing.prepare(code);
        return slicing.hanging.onBegin[procedure];
    }

    public boolean summary(int call, int i, int k) {
        if (!isStatement(call) || code.kind[call] != CALL || !isPort(i) || !isPort(k)) {
            return false;
        }
        slicing.prepare(code);
        return slicing.leadsThrough(code.callee[call], i, k);
    }

    public long back(int statement) {
        if (!isStatement(statement)) {
            return NONE;
        }
        slicing.prepare(code);
        return slicing.backFrom(statement);
    }

    public long forth(int statement) {
        if (!isStatement(statement)) {
            return NONE;
        }
        slicing.prepare(code);
        return slicing.forthFrom(statement);
    }

    public long between(int x, int y) {
        if (!isStatement(x) || !isStatement(y)) {
            return NONE;
        }
        slicing.prepare(code);
        return slicing.forthFrom(x) & slicing.backFrom(y);
    }

    public long backOf(int procedure, int k) {
        if (!isProcedure(procedure) || !isPort(k)) {
            return NONE;
        }
        slicing.prepare(code);
        return slicing.backFromOut(procedure, k);
    }

    public long kept(int statement) {
        if (!isStatement(statement)) {
            return NONE;
        }
        slicing.prepare(code);
        return slicing.keptFor(statement);
    }

    // ---- runs

    public int run(int a, int b) {
        if (code.procedures == 0) {
            return NONE;
        }
        return machine.play(code, STATEMENT_BITS, a, b);
    }

    public int runKept(int statement, int a, int b) {
        if (!isStatement(statement)) {
            return NONE;
        }
        slicing.prepare(code);
        return machine.play(code, slicing.keptFor(statement), a, b);
    }

    public int ended(int what) {
        return machine.tell(what);
    }

    public int saw(int statement, int k) {
        if (!isStatement(statement) || k < NONE) {
            return 0;
        }
        return k == NONE ? machine.sightsOf(statement) : machine.sightOf(statement, k);
    }

    private boolean isStatement(int statement) {
        return statement >= 0 && statement < code.statements;
    }

    private boolean isProcedure(int procedure) {
        return procedure >= 0 && procedure < code.procedures;
    }

    private static boolean isPort(int port) {
        return port >= 0 && port < PORTS;
    }

    private static long bit(int unit) {
        return 1L << unit;
    }

    private static boolean has(long units, int unit) {
        return (units >>> unit & 1L) != 0L;
    }

    private static boolean isField(int name) {
        return name >= VARIABLES;
    }

    /** The port through which a field goes into a call and out of it. */
    private static int portOfField(int name) {
        return name - VARIABLES + FIELD_PORT;
    }

    /**
     * A program that was read: its statements and the ways between them. An operand is a name (below NAMES), a
     * number (NAMES and the number together) or NONE.
     */
    private static final class Code {
        private int statements = 0;
        private int procedures = 0;
        private long calls = 0L;
        private int mayReturn = 0;
        private int mayThrow = 0;
        private final int[] first = new int[PROCEDURES];
        private final int[] kind = new int[STATEMENTS];
        private final int[] owner = new int[STATEMENTS];
        private final int[] depth = new int[STATEMENTS];
        private final int[] at = new int[STATEMENTS];
        private final int[] name = new int[STATEMENTS];
        private final int[] callee = new int[STATEMENTS];
        private final int[] sign = new int[STATEMENTS];
        private final int[] left = new int[STATEMENTS];
        private final int[] right = new int[STATEMENTS];
        /** What stands behind a statement and all its blocks. */
        private final int[] next = new int[STATEMENTS];
        /** Where a test or a loop goes if it is not so, any other statement if it just goes on. */
        private final int[] straight = new int[STATEMENTS];
        /** Where a test or a loop goes if it is so, a return ends, what is thrown comes. */
        private final int[] aside = new int[STATEMENTS];
        private final int[] catchVariable = new int[STATEMENTS];
        private final int[] catchFirst = new int[STATEMENTS];

        private void clear() {
            statements = 0;
            procedures = 0;
            calls = 0L;
            mayReturn = 0;
            mayThrow = 0;
        }

        /** A new statement; the caller has seen that there is room for it. */
        private int add(int newKind, int newOwner, int newDepth, int newAt) {
            int statement = statements;
            statements++;
            kind[statement] = newKind;
            owner[statement] = newOwner;
            depth[statement] = newDepth;
            at[statement] = newAt;
            name[statement] = NONE;
            callee[statement] = NOTHING;
            sign[statement] = NONE;
            left[statement] = NONE;
            right[statement] = NONE;
            return statement;
        }

        private boolean decides(int statement) {
            if (kind[statement] == CALL) {
                return has(mayThrow, callee[statement]);
            }
            return kind[statement] != SET;
        }

        /** Whether the straight way is ever gone, and not there only to decide what hangs by way. */
        private boolean goesStraight(int statement) {
            if (kind[statement] == CALL) {
                return has(mayReturn, callee[statement]);
            }
            return kind[statement] != THROW && kind[statement] != RETURN;
        }

        /** Whether what a statement throws leaves its procedure. */
        private boolean escapes(int statement) {
            if (catchVariable[statement] >= 0) {
                return false;
            }
            return kind[statement] == THROW || kind[statement] == CALL && has(mayThrow, callee[statement]);
        }

        private boolean tellsStraight(int statement, int told) {
            if (kind[statement] == CALL && isField(told)) {
                return true;
            }
            return name[statement] == told;
        }

        private boolean tellsAside(int statement, int told) {
            if (kind[statement] == CALL) {
                return isField(told) || catchVariable[statement] == told;
            }
            return kind[statement] == THROW && catchVariable[statement] == told;
        }

        private boolean callsOnlyTold() {
            boolean only = true;
            for (int statement = 0; statement < statements; statement++) {
                only &= callee[statement] < procedures;
            }
            return only;
        }

        /** From none that may return or throw upward, so that as few as can be are taken to. */
        private void settleEnds() {
            boolean grown = true;
            for (int round = 0; round <= 2 * PROCEDURES && grown; round++) {
                int returnedBefore = mayReturn;
                int thrownBefore = mayThrow;
                for (int procedure = 0; procedure < procedures; procedure++) {
                    walk(procedure);
                }
                grown = returnedBefore != mayReturn || thrownBefore != mayThrow;
            }
        }

        /** One pass is enough: the only ways back lead to loops that were reached before. */
        private void walk(int procedure) {
            long reached = bit(first[procedure]);
            for (int statement = 0; statement < statements; statement++) {
                if (!has(reached, statement)) {
                    continue;
                }
                if (goesStraight(statement)) {
                    reached |= bit(straight[statement]);
                }
                if (escapes(statement)) {
                    mayThrow |= 1 << procedure;
                } else if (decides(statement)) {
                    reached |= bit(aside[statement]);
                }
            }
            if (has(reached, STATEMENTS + procedure)) {
                mayReturn |= 1 << procedure;
            }
        }

        private boolean allMayEnd() {
            return (mayReturn | mayThrow) == (1 << procedures) - 1;
        }

        private long callsOf(int procedure) {
            long found = 0L;
            for (int statement = 0; statement < statements; statement++) {
                if (callee[statement] == procedure) {
                    found |= bit(statement);
                }
            }
            return found;
        }
    }

    /** The items (statements and trys) of a text, each with the one before it in its block. */
    private static final class Tree {
        private int items = 0;
        /** NONE for a try. */
        private final int[] statement = new int[ITEMS];
        private final int[] before = new int[ITEMS];
        private final int[] lastInner = new int[ITEMS];
        private final int[] lastOther = new int[ITEMS];
        private final int[] variable = new int[ITEMS];
        private final int[] catchEntry = new int[ITEMS];
        private final int[] catchFirst = new int[ITEMS];
        private final int[] lastOfProcedure = new int[PROCEDURES];

        /** NONE if there is no more room. */
        private int add(int ofStatement) {
            if (items >= ITEMS) {
                return NONE;
            }
            int item = items;
            items++;
            statement[item] = ofStatement;
            before[item] = NONE;
            lastInner[item] = NONE;
            lastOther[item] = NONE;
            variable[item] = NONE;
            return item;
        }
    }

    /**
     * Reads a text into code, byte for byte, with a row of the blocks that stand open. What is read behind a
     * fault does no harm: the first fault that is blamed is the first along the text.
     */
    private static final class Reader {
        private static final int TEXT_END = -1;
        private static final int STRAY = 1;
        private static final int LONG_NUMBER = 2;
        private static final int WRONG_LETTER = 3;
        private static final int TOO_MANY = 4;
        private static final int UNTOLD_CALL = 5;
        private static final int ENDLESS = 6;

        private byte[] text = new byte[0];
        private int length = 0;
        private int place = 0;
        private int blamed = 0;
        private Code code;
        private final Tree tree = new Tree();
        private final Wiring wiring;

        private int open = 0;
        /** Of each open block: the item whose block it is (NONE: the procedure), its last item so far. */
        private final int[] holder = new int[DEEPEST + 1];
        private final int[] last = new int[DEEPEST + 1];
        /** Whether it is the second block of its item. */
        private final boolean[] second = new boolean[DEEPEST + 1];

        private Reader(Code into) {
            code = into;
            wiring = new Wiring(tree, into);
        }

        /** The fault of the text, 0 if it has none: then the code is whole. */
        private int read(byte[] bytes, int count, Code into) {
            start(bytes, count, into);
            readProcedure();
            // Each turn takes a byte at least or blames one, so no more turns are needed.
            for (int turn = 0; turn <= TAPE_BYTES && blamed == 0; turn++) {
                int token = look();
                if (open == 0 && token == TEXT_END) {
                    break;
                } else if (open == 0) {
                    readProcedure();
                } else if (token == '}') {
                    closeBlock();
                } else if (token == '%') {
                    readTry();
                } else {
                    readStatement(token);
                }
            }
            finish();
            return blamed;
        }

        private void start(byte[] bytes, int count, Code into) {
            text = bytes;
            length = Math.min(count, bytes.length);
            place = 0;
            blamed = 0;
            code = into;
            code.clear();
            tree.items = 0;
            open = 0;
        }

        /** What can only be told behind the whole text. */
        private void finish() {
            if (blamed != 0) {
                return;
            }
            if (!code.callsOnlyTold()) {
                blame(UNTOLD_CALL, length);
                return;
            }
            wiring.wire(code);
            code.settleEnds();
            if (!code.allMayEnd()) {
                blame(ENDLESS, length);
            }
        }

        private void blame(int kind, int where) {
            if (blamed == 0) {
                blamed = kind + 8 * where;
            }
        }

        /** The byte of the next token, without taking it. */
        private int look() {
            while (place < length && (text[place] == ' ' || text[place] == '\n')) {
                place++;
            }
            return place < length ? text[place] & 255 : TEXT_END;
        }

        private void take(int token) {
            if (look() == token) {
                place++;
            } else {
                blame(STRAY, place);
            }
        }

        private void readProcedure() {
            int token = look();
            if (token < 'A' || token > 'Z') {
                blame(STRAY, place);
            } else if (code.procedures >= PROCEDURES || token != 'A' + code.procedures) {
                blame(WRONG_LETTER, place);
            } else {
                place++;
                code.procedures++;
                openBlock(NONE, false);
            }
        }

        private void openBlock(int item, boolean isSecond) {
            if (look() != '{') {
                blame(STRAY, place);
            } else if (open > DEEPEST) {
                blame(TOO_MANY, place);
            } else {
                place++;
                holder[open] = item;
                last[open] = NONE;
                second[open] = isSecond;
                open++;
            }
        }

        private void closeBlock() {
            place++;
            open--;
            int item = holder[open];
            if (item < 0) {
                tree.lastOfProcedure[code.procedures - 1] = last[open];
            } else if (second[open]) {
                tree.lastOther[item] = last[open];
            } else {
                tree.lastInner[item] = last[open];
                readSecond(item);
            }
        }

        private void readSecond(int item) {
            int token = look();
            int statement = tree.statement[item];
            if (statement == NONE) {
                int variable = nameOf(token);
                if (variable == NONE || isField(variable)) {
                    blame(STRAY, place);
                } else {
                    place++;
                    tree.variable[item] = variable;
                    openBlock(item, true);
                }
            } else if (code.kind[statement] == TEST && token == ':') {
                place++;
                openBlock(item, true);
            }
        }

        /** A new item of the innermost block; NONE if there is no room. */
        private int addItem(int statement) {
            int item = tree.add(statement);
            if (item < 0) {
                blame(TOO_MANY, place);
            } else {
                tree.before[item] = last[open - 1];
                last[open - 1] = item;
            }
            return item;
        }

        private void readTry() {
            int item = addItem(NONE);
            place++;
            openBlock(item, false);
        }

        private void readStatement(int token) {
            int kind = kindBegunBy(token);
            if (kind == NONE) {
                blame(STRAY, place);
                return;
            }
            if (code.statements >= STATEMENTS) {
                blame(TOO_MANY, place);
                return;
            }
            int statement = code.add(kind, code.procedures - 1, open - 1, place);
            int item = addItem(statement);
            place++;
            if (kind == SET) {
                readAssignment(statement, nameOf(token));
            } else if (kind == TEST || kind == LOOP) {
                readCondition(statement, item);
            } else {
                code.left[statement] = readOperand();
                take(';');
            }
        }

        /** A call begins as a set does. */
        private static int kindBegunBy(int token) {
            switch (token) {
                case '?': return TEST;
                case '@': return LOOP;
                case '!': return THROW;
                case '^': return RETURN;
                default: return nameOf(token) == NONE ? NONE : SET;
            }
        }

        private void readCondition(int statement, int item) {
            code.left[statement] = readOperand();
            take('<');
            code.right[statement] = readOperand();
            openBlock(item, false);
        }

        private void readAssignment(int statement, int name) {
            code.name[statement] = name;
            take('=');
            int token = look();
            if (token >= 'A' && token < 'A' + PROCEDURES && !isField(name)) {
                readCall(statement, token);
            } else {
                readNumbers(statement);
            }
            take(';');
        }

        private void readCall(int statement, int token) {
            place++;
            code.kind[statement] = CALL;
            code.callee[statement] = token - 'A';
            code.calls |= bit(statement);
            take('(');
            code.left[statement] = readOperand();
            take(',');
            code.right[statement] = readOperand();
            take(')');
        }

        private void readNumbers(int statement) {
            code.left[statement] = readOperand();
            int token = look();
            if (token == '+' || token == '-' || token == '*' || token == '<') {
                place++;
                code.sign[statement] = token;
                code.right[statement] = readOperand();
            }
        }

        private int readOperand() {
            int token = look();
            if (isDigit(token)) {
                return NAMES + readNumber();
            }
            int name = nameOf(token);
            if (name == NONE) {
                blame(STRAY, place);
            } else {
                place++;
            }
            return name;
        }

        private int readNumber() {
            int begin = place;
            int number = 0;
            while (place < length && isDigit(text[place])) {
                if (place - begin < 3) {
                    number = number * 10 + text[place] - '0';
                }
                place++;
            }
            if (place - begin > 3) {
                blame(LONG_NUMBER, begin);
            }
            return number;
        }

        private static boolean isDigit(int token) {
            return token >= '0' && token <= '9';
        }

        private static int nameOf(int token) {
            if (token >= 'a' && token <= 'f') {
                return token - 'a';
            }
            return token >= 'w' && token <= 'z' ? VARIABLES + token - 'w' : NONE;
        }
    }

    /** Lays the ways of a program, from the last item of each block backward: what follows is known then. */
    private static final class Wiring {
        private final Tree tree;
        private Code code;

        private Wiring(Tree from, Code into) {
            tree = from;
            code = into;
        }

        private void wire(Code into) {
            code = into;
            for (int procedure = 0; procedure < code.procedures; procedure++) {
                int last = tree.lastOfProcedure[procedure];
                code.first[procedure] = wireBlock(last, STATEMENTS + procedure, NONE, 0);
            }
        }

        /** Where a block is entered; what follows it, if it has no statement to be done first. */
        private int wireBlock(int last, int follow, int catcher, int level) {
            int entry = follow;
            int item = level > DEEPEST ? NONE : last;
            for (int turn = 0; turn < ITEMS && item >= 0; turn++) {
                if (tree.statement[item] == NONE) {
                    entry = wireTry(item, entry, catcher, level);
                } else {
                    entry = wireStatement(item, entry, catcher, level);
                }
                item = tree.before[item];
            }
            return entry;
        }

        private int wireTry(int item, int follow, int catcher, int level) {
            int entry = wireBlock(tree.lastOther[item], follow, catcher, level + 1);
            tree.catchEntry[item] = entry;
            tree.catchFirst[item] = entry == follow ? NOTHING : entry;
            return wireBlock(tree.lastInner[item], follow, item, level + 1);
        }

        private int wireStatement(int item, int follow, int catcher, int level) {
            int statement = tree.statement[item];
            int endOfOwner = STATEMENTS + code.owner[statement];
            code.next[statement] = follow;
            code.straight[statement] = follow;
            code.aside[statement] = catcher < 0 ? endOfOwner : tree.catchEntry[catcher];
            code.catchVariable[statement] = catcher < 0 ? NONE : tree.variable[catcher];
            code.catchFirst[statement] = catcher < 0 ? NOTHING : tree.catchFirst[catcher];
            if (code.kind[statement] == RETURN) {
                code.aside[statement] = endOfOwner;
            } else if (code.kind[statement] == LOOP) {
                code.aside[statement] = wireBlock(tree.lastInner[item], statement, catcher, level + 1);
            } else if (code.kind[statement] == TEST) {
                code.aside[statement] = wireBlock(tree.lastInner[item], follow, catcher, level + 1);
                code.straight[statement] = wireBlock(tree.lastOther[item], follow, catcher, level + 1);
            }
            return statement;
        }
    }

    /** On what each place hangs directly within its procedure. */
    private static final class Hanging {
        private static final int ROUNDS = UNITS * UNITS;

        /** The set of places on which each place hangs. */
        private final long[] rows = new long[UNITS * PARTS * PARTS];
        private final long[] byValue = new long[STATEMENTS];
        private final long[] byWay = new long[STATEMENTS];
        private final long[] onBegin = new long[PROCEDURES];
        /** For one name: the units that told it last on some way to a unit. */
        private final long[] tellers = new long[UNITS];
        /** The statements that stand on all ways from a unit to the end. */
        private final long[] certain = new long[UNITS];
        private Code code;

        private Hanging(Code program) {
            code = program;
        }

        private void build(Code program) {
            code = program;
            Arrays.fill(rows, 0L);
            Arrays.fill(byValue, 0L);
            Arrays.fill(byWay, 0L);
            tieByWay();
            for (int name = 0; name < NAMES; name++) {
                findTellers(name);
                tieByValue(name);
            }
            tieEnds();
            tieCalls();
        }

        private int kindsBetween(int y, int x) {
            return (has(byValue[y], x) ? 1 : 0) + (has(byWay[y], x) ? 2 : 0);
        }

        private void tie(int unit, int part, int onPart, long onUnits) {
            rows[(unit * PARTS + part) * PARTS + onPart] |= onUnits;
        }

        /** From all downward: every unit has a way to the end, so what is left stands on all of them. */
        private void findCertain() {
            for (int unit = 0; unit < UNITS; unit++) {
                certain[unit] = unit < STATEMENTS ? STATEMENT_BITS : 0L;
            }
            boolean changed = true;
            for (int round = 0; round < ROUNDS && changed; round++) {
                changed = false;
                for (int statement = code.statements - 1; statement >= 0; statement--) {
                    long now = certain[code.straight[statement]];
                    if (code.decides(statement)) {
                        now &= certain[code.aside[statement]];
                    }
                    now |= bit(statement);
                    changed |= now != certain[statement];
                    certain[statement] = now;
                }
            }
        }

        private void tieByWay() {
            findCertain();
            for (int x = 0; x < code.statements; x++) {
                if (code.decides(x)) {
                    tieDecided(x, certain[code.straight[x]] ^ certain[code.aside[x]]);
                }
            }
            for (int procedure = 0; procedure < code.procedures; procedure++) {
                onBegin[procedure] = certain[code.first[procedure]];
                tieAll(onBegin[procedure], 0, STATEMENTS + procedure);
            }
        }

        private void tieDecided(int x, long decided) {
            tieAll(decided, code.kind[x] == CALL ? OUT_HOW : 0, x);
            for (int y = 0; y < code.statements; y++) {
                if (has(decided, y)) {
                    byWay[y] |= bit(x);
                }
            }
        }

        private void tieAll(long statements, int onPart, int onUnit) {
            for (int y = 0; y < code.statements; y++) {
                if (has(statements, y)) {
                    tie(y, 0, onPart, bit(onUnit));
                }
            }
        }

        private void findTellers(int name) {
            Arrays.fill(tellers, 0L);
            if (name < 2 || isField(name)) {
                for (int procedure = 0; procedure < code.procedures; procedure++) {
                    tellers[code.first[procedure]] = bit(STATEMENTS + procedure);
                }
            }
            boolean changed = true;
            for (int round = 0; round < ROUNDS && changed; round++) {
                changed = false;
                for (int statement = 0; statement < code.statements; statement++) {
                    changed |= passOn(statement, name);
                }
            }
        }

        /** Whether some unit was told something new. */
        private boolean passOn(int statement, int name) {
            boolean changed = false;
            if (code.goesStraight(statement)) {
                boolean tells = code.tellsStraight(statement, name);
                changed = addTellers(code.straight[statement], tells ? bit(statement) : tellers[statement]);
            }
            if (code.decides(statement)) {
                boolean tells = code.tellsAside(statement, name);
                changed |= addTellers(code.aside[statement], tells ? bit(statement) : tellers[statement]);
            }
            return changed;
        }

        private boolean addTellers(int unit, long more) {
            long before = tellers[unit];
            tellers[unit] = before | more;
            return tellers[unit] != before;
        }

        private void tieByValue(int name) {
            for (int statement = 0; statement < code.statements; statement++) {
                boolean calling = code.kind[statement] == CALL;
                if (code.left[statement] == name) {
                    tieUse(statement, calling ? IN : 0, name);
                }
                if (code.right[statement] == name) {
                    tieUse(statement, calling ? IN + 1 : 0, name);
                }
                if (calling && isField(name)) {
                    tieUse(statement, IN + portOfField(name), name);
                }
            }
            if (isField(name)) {
                for (int procedure = 0; procedure < code.procedures; procedure++) {
                    tieUse(STATEMENTS + procedure, OUT + portOfField(name), name);
                }
            }
        }

        private void tieUse(int unit, int part, int name) {
            long told = tellers[unit];
            int port = isField(name) ? portOfField(name) : 0;
            int portAtBegin = isField(name) ? portOfField(name) : name;
            tie(unit, part, 0, told & STATEMENT_BITS & ~code.calls);
            tie(unit, part, OUT + port, told & code.calls);
            tie(unit, part, IN + portAtBegin, told & ~STATEMENT_BITS);
            if (unit < STATEMENTS) {
                byValue[unit] |= told & STATEMENT_BITS;
            }
        }

        /** The value of a procedure and how it ends. */
        private void tieEnds() {
            for (int statement = 0; statement < code.statements; statement++) {
                if (code.kind[statement] != RETURN && !code.escapes(statement)) {
                    continue;
                }
                boolean calling = code.kind[statement] == CALL;
                int procedure = code.owner[statement];
                tie(STATEMENTS + procedure, OUT, calling ? OUT : 0, bit(statement));
                if (has(code.mayThrow, procedure)) {
                    tie(STATEMENTS + procedure, OUT_HOW, calling ? OUT_HOW : 0, bit(statement));
                }
            }
        }

        private void tieCalls() {
            for (int statement = 0; statement < code.statements; statement++) {
                if (code.kind[statement] == CALL) {
                    for (int part = IN; part < PARTS; part++) {
                        tie(statement, part, 0, bit(statement));
                    }
                }
            }
        }
    }

    /** Slices in which calls and returns match: first upward to callers, then downward into what is called. */
    private static final class Slicing {
        private static final int LEVEL = 0;
        private static final int UP = 1;
        private static final int DOWN = 2;

        private final Hanging hanging;
        private Code code;
        private boolean ready = false;
        private final long[] callers = new long[PROCEDURES];
        /** For OUT k of a procedure, its IN i to which rows lead that stay within it and what it calls. */
        private final int[] through = new int[PROCEDURES * PORTS];
        /** Places to which rows lead that owe no way back up. */
        private final long[] risen = new long[PARTS];
        /** All places to which rows that match lead. */
        private final long[] found = new long[PARTS];
        private final int[] queue = new int[UNITS * PARTS];
        private int queued = 0;
        /** The answers that were found already, and for which statements they are known. */
        private final long[] backs = new long[STATEMENTS];
        private long backsKnown = 0L;
        private final long[] keeps = new long[STATEMENTS];
        private long keepsKnown = 0L;

        private Slicing(Code program) {
            hanging = new Hanging(program);
            code = program;
        }

        private void forget() {
            ready = false;
        }

        /** Many programs are only read or run, so this waits until somebody asks for a slice. */
        private void prepare(Code program) {
            if (ready) {
                return;
            }
            ready = true;
            code = program;
            hanging.build(code);
            backsKnown = 0L;
            keepsKnown = 0L;
            for (int procedure = 0; procedure < code.procedures; procedure++) {
                callers[procedure] = code.callsOf(procedure);
            }
            Arrays.fill(through, 0);
            boolean grown = true;
            for (int round = 0; round <= PROCEDURES * PORTS * PORTS && grown; round++) {
                grown = growThrough();
            }
        }

        private boolean growThrough() {
            boolean grown = false;
            for (int procedure = 0; procedure < code.procedures; procedure++) {
                for (int k = 0; k < PORTS; k++) {
                    int now = insFrom(procedure, k);
                    grown |= now != through[procedure * PORTS + k];
                    through[procedure * PORTS + k] = now;
                }
            }
            return grown;
        }

        private int insFrom(int procedure, int k) {
            clearFound();
            add(found, OUT + k, bit(STATEMENTS + procedure));
            spread(found, LEVEL);
            int ins = 0;
            for (int i = 0; i < PORTS; i++) {
                if (has(found[IN + i], STATEMENTS + procedure)) {
                    ins |= 1 << i;
                }
            }
            return ins;
        }

        private boolean leadsThrough(int procedure, int i, int k) {
            return has(through[procedure * PORTS + k], i);
        }

        private void clearFound() {
            Arrays.fill(risen, 0L);
            Arrays.fill(found, 0L);
            queued = 0;
        }

        private void add(long[] places, int part, long units) {
            long fresh = units & ~places[part];
            if (fresh == 0L) {
                return;
            }
            places[part] |= fresh;
            for (int unit = 0; unit < UNITS && fresh >>> unit != 0L; unit++) {
                if ((fresh >>> unit & 1L) != 0L && queued < queue.length) {
                    queue[queued] = unit * PARTS + part;
                    queued++;
                }
            }
        }

        /** From the queued places on; each place is queued but once for a set, so this ends. */
        private void spread(long[] places, int across) {
            for (int turn = 0; turn < queue.length && turn < queued; turn++) {
                int unit = queue[turn] / PARTS;
                int part = queue[turn] % PARTS;
                followRow(places, queue[turn]);
                if (unit < STATEMENTS && part >= OUT) {
                    followCall(places, unit, part, across);
                } else if (unit >= STATEMENTS && part < OUT && across == UP) {
                    add(places, part, callers[unit - STATEMENTS]);
                }
            }
            queued = 0;
        }

        private void followRow(long[] places, int place) {
            int start = place * PARTS;
            for (int part = 0; part < PARTS; part++) {
                long units = hanging.rows[start + part];
                if (units != 0L) {
                    add(places, part, units);
                }
            }
        }

        private void followCall(long[] places, int call, int part, int across) {
            int procedure = code.callee[call];
            if (procedure < 0) {
                return;
            }
            int ins = through[procedure * PORTS + part - OUT];
            for (int i = 0; i < PORTS; i++) {
                if ((ins >>> i & 1) != 0) {
                    add(places, IN + i, 1L << call);
                }
            }
            if (across == DOWN) {
                add(places, part, 1L << (STATEMENTS + procedure));
            }
        }

        /** Finds on from the places that were added to the risen ones. */
        private void findOn() {
            spread(risen, UP);
            for (int part = 0; part < PARTS; part++) {
                add(found, part, risen[part]);
            }
            spread(found, DOWN);
        }

        private void beginFrom(int statement) {
            clearFound();
            int parts = code.kind[statement] == CALL ? PARTS : 1;
            for (int part = 0; part < parts; part++) {
                add(risen, part, bit(statement));
            }
        }

        private long statementsFound() {
            long statements = 0L;
            for (int part = 0; part < PARTS; part++) {
                statements |= found[part];
            }
            return statements & STATEMENT_BITS;
        }

        private long backFrom(int statement) {
            if (!has(backsKnown, statement)) {
                beginFrom(statement);
                findOn();
                backs[statement] = statementsFound();
                backsKnown |= bit(statement);
            }
            return backs[statement];
        }

        private long forthFrom(int statement) {
            long forward = 0L;
            for (int y = 0; y < code.statements; y++) {
                if (has(backFrom(y), statement)) {
                    forward |= bit(y);
                }
            }
            return forward;
        }

        private long backFromOut(int procedure, int k) {
            clearFound();
            add(risen, OUT + k, bit(STATEMENTS + procedure));
            findOn();
            return statementsFound();
        }

        private long keptFor(int statement) {
            if (!has(keepsKnown, statement)) {
                keeps[statement] = findKept(statement);
                keepsKnown |= bit(statement);
            }
            return keeps[statement];
        }

        private long findKept(int statement) {
            beginFrom(statement);
            findOn();
            boolean grown = true;
            for (int round = 0; round <= STATEMENTS * PORTS && grown; round++) {
                grown = completeCalls();
                findOn();
            }
            return statementsFound();
        }

        /** A call that is kept is done whole, so it must be given what is used in what it calls. */
        private boolean completeCalls() {
            boolean grown = false;
            for (int procedure = 0; procedure < code.procedures; procedure++) {
                for (int part = IN; part < OUT; part++) {
                    if (has(found[part], STATEMENTS + procedure)) {
                        long calls = callers[procedure] & found[0] & ~risen[part];
                        add(risen, part, calls);
                        grown |= calls != 0L;
                    }
                }
            }
            return grown;
        }
    }

    /** Runs a program, or what is kept of it, along its ways. */
    private static final class Machine {
        private static final int GOING = 3;
        private static final int MOST_DONE = 3000;
        private static final int FRAMES = 31;
        private static final int SIGHTS = 500;
        /** Far above what a run can need: it passes few statements for each one that it does. */
        private static final int MOVES = 1000000;

        private final int[] fields = new int[FIELDS];
        private final int[] variables = new int[FRAMES * VARIABLES];
        /** The call that opened each frame but the lowest. */
        private final int[] opener = new int[FRAMES];
        private int frame = 0;
        private int unit = 0;
        private int done = 0;
        private int how = NONE;
        private int value = 0;
        private final int[] seer = new int[SIGHTS];
        private final int[] sight = new int[SIGHTS];
        private int sights = 0;
        private Code code;
        private long keep = 0L;

        private Machine(Code program) {
            code = program;
        }

        private void forget() {
            how = NONE;
            sights = 0;
        }

        private int play(Code program, long keeping, int a, int b) {
            code = program;
            keep = keeping;
            Arrays.fill(fields, 0);
            frame = 0;
            done = 0;
            value = 0;
            sights = 0;
            how = GOING;
            enter(0, a, b);
            for (int move = 0; move < MOVES && how == GOING; move++) {
                step();
            }
            return how;
        }

        private void enter(int procedure, int a, int b) {
            int base = frame * VARIABLES;
            for (int name = 0; name < VARIABLES; name++) {
                variables[base + name] = 0;
            }
            variables[base] = a;
            variables[base + 1] = b;
            unit = code.first[procedure];
        }

        private void step() {
            if (unit >= STATEMENTS) {
                leave(0, false);
            } else if (!has(keep, unit)) {
                unit = code.next[unit];
            } else if (done >= MOST_DONE) {
                how = CUT;
            } else {
                done++;
                perform(unit);
            }
        }

        private void perform(int statement) {
            switch (code.kind[statement]) {
                case SET:
                    int number = compute(statement);
                    store(code.name[statement], number);
                    see(statement, number);
                    unit = code.straight[statement];
                    break;
                case CALL:
                    open(statement);
                    break;
                case THROW:
                    see(statement, load(code.left[statement]));
                    raise(statement, load(code.left[statement]));
                    break;
                case RETURN:
                    see(statement, load(code.left[statement]));
                    leave(load(code.left[statement]), false);
                    break;
                default:
                    boolean so = load(code.left[statement]) < load(code.right[statement]);
                    see(statement, so ? 1 : 0);
                    unit = so ? code.aside[statement] : code.straight[statement];
                    break;
            }
        }

        private int compute(int statement) {
            int left = load(code.left[statement]);
            int right = load(code.right[statement]);
            switch (code.sign[statement]) {
                case '+': return left + right;
                case '-': return left - right;
                case '*': return left * right;
                case '<': return left < right ? 1 : 0;
                default: return left;
            }
        }

        private int load(int operand) {
            if (operand < 0) {
                return 0;
            }
            if (operand >= NAMES) {
                return operand - NAMES;
            }
            if (operand >= VARIABLES) {
                return fields[operand - VARIABLES];
            }
            return variables[frame * VARIABLES + operand];
        }

        private void store(int name, int number) {
            if (name >= VARIABLES) {
                fields[name - VARIABLES] = number;
            } else if (name >= 0) {
                variables[frame * VARIABLES + name] = number;
            }
        }

        private void see(int statement, int number) {
            if (sights < SIGHTS) {
                seer[sights] = statement;
                sight[sights] = number;
                sights++;
            }
        }

        private void open(int call) {
            if (frame + 1 >= FRAMES) {
                how = CUT;
                return;
            }
            int a = load(code.left[call]);
            int b = load(code.right[call]);
            frame++;
            opener[frame] = call;
            enter(code.callee[call], a, b);
        }

        private void raise(int statement, int number) {
            if (code.catchVariable[statement] >= 0) {
                store(code.catchVariable[statement], number);
                unit = code.aside[statement];
            } else {
                leave(number, true);
            }
        }

        /** Closes calls until one of them takes what was brought. */
        private void leave(int number, boolean thrown) {
            boolean taken = false;
            for (int turn = 0; turn < FRAMES && frame > 0 && !taken; turn++) {
                int call = opener[frame];
                frame--;
                see(call, number);
                taken = !thrown || code.catchVariable[call] >= 0;
                if (taken) {
                    store(thrown ? code.catchVariable[call] : code.name[call], number);
                    unit = thrown ? code.aside[call] : code.straight[call];
                }
            }
            if (!taken) {
                how = thrown ? THROWN : RETURNED;
                value = number;
            }
        }

        private int tell(int what) {
            if (how == NONE) {
                return NONE;
            }
            switch (what) {
                case 0: return how;
                case 1: return value;
                case 2: return done;
                case 3:
                case 4:
                case 5:
                case 6: return fields[what - 3];
                default: return NONE;
            }
        }

        private int sightsOf(int statement) {
            int times = 0;
            for (int index = 0; index < sights; index++) {
                if (seer[index] == statement) {
                    times++;
                }
            }
            return times;
        }

        private int sightOf(int statement, int k) {
            int times = 0;
            for (int index = 0; index < sights; index++) {
                if (seer[index] == statement) {
                    if (times == k) {
                        return sight[index];
                    }
                    times++;
                }
            }
            return 0;
        }
    }
}
