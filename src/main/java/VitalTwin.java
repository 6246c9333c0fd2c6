import java.util.Arrays;

/** A vital coded processor: a compiler for a small control language, and a machine that runs its code twice. */
public final class VitalTwin {
    public static final int NONE = -1;

    /** Stands far above the rounds of any loop whose end the tape or the code brings. */
    private static final int MANY = 1000000;
    /** What all values of the second copy are multiplied by. */
    private static final long CODING = 58659;
    private static final int GREATEST = 2000000000;
    private static final int BITS = 64;
    private static final int LONGEST_TAPE = 65536;
    /** What 512 calls of feed bring: the rows for the tape have room for it at once, so that no such run makes them again. */
    private static final int FED_IN_A_RUN = 512 * 16;
    private static final int MOST_CODE = 8192;
    private static final int MOST_SYMBOLS = 400;
    private static final int MOST_NESTED = 64;
    private static final int MOST_CALLS = 16;
    private static final int MOST_FLIPS = 8;
    private static final int MOST_STEPS = 200000;
    private static final int NAME_SIGNS = 20;
    private static final int KEPT_CYCLES = 16;

    private static final int CONST = 0;
    private static final int LOAD = 1;
    private static final int STORE = 2;
    private static final int MOVE = 3;
    private static final int LOADX = 4;
    private static final int STOREX = 5;
    private static final int ADD = 6;
    private static final int SUB = 7;
    private static final int MUL = 8;
    private static final int DIV = 9;
    private static final int REM = 10;
    private static final int MIN = 11;
    private static final int MAX = 12;
    private static final int LT = 13;
    private static final int LE = 14;
    private static final int GT = 15;
    private static final int GE = 16;
    private static final int EQ = 17;
    private static final int NE = 18;
    private static final int NEG = 19;
    private static final int ABS = 20;
    private static final int NOT = 21;
    private static final int LOW = 22;
    private static final int HIGH = 23;
    private static final int JUMP = 24;
    private static final int JZ = 25;
    private static final int JNZ = 26;
    private static final int CALL = 27;
    private static final int RET = 28;
    private static final int HALT = 29;
    private static final int CHECK = 30;

    /** The words of the OPs in their order, each in a place of WORD_SIGNS signs. */
    private static final String OP_WORDS = "CONST LOAD  STORE MOVE  LOADX STOREXADD   SUB   MUL   DIV   REM   MIN   MAX   LT    LE    GT    GE    EQ    NE    NEG   ABS   NOT   LOW   HIGH  JUMP  JZ    JNZ   CALL  RET   HALT  CHECK ";
    private static final int WORD_SIGNS = 6;

    private static final int IS_CONST = 0;
    private static final int IS_IN = 1;
    private static final int IS_OUT = 2;
    private static final int IS_STATE = 3;
    private static final int IS_FUN = 4;
    private static final int IS_PARAMETER = 5;
    private static final int IS_VAR = 6;
    private static final int IS_FOR = 7;
    private static final int IS_TYPE = 8;
    private static final int IS_MEMBER = 9;

    /** Types: INT, BOOL, none, and from ENUM on ENUM + the SYMBOL of the type. */
    private static final int INT = 0;
    private static final int BOOL = 1;
    private static final int NOTHING = 2;
    private static final int ENUM = 3;

    private static final int BAD_TOKEN = 1;
    private static final int TOLD_AGAIN = 2;
    private static final int BAD_NAME = 3;
    private static final int BAD_ORDER = 4;
    private static final int BAD_TYPE = 5;
    private static final int NOT_WITHIN = 6;
    private static final int BY_ZERO = 7;
    private static final int BEYOND = 8;
    private static final int BAD_NUMBER_OF_ES = 9;
    private static final int TOO_MUCH = 10;
    private static final int TOO_LARGE = 11;

    /** Tokens; a mark of one sign is that sign itself, so the others keep away from 33 .. 126. */
    private static final int END = 0;
    private static final int NO_TOKEN = 1;
    private static final int NAME = 2;
    private static final int NUMBER = 3;
    /** Blanks, line ends and comments, which no row of tokens holds. */
    private static final int BETWEEN = 4;
    private static final int DOTS = 128;
    private static final int AT_MOST = 129;
    private static final int AT_LEAST = 130;
    private static final int SAME = 131;
    private static final int OTHER = 132;
    private static final int BOTH = 133;
    private static final int EITHER = 134;
    private static final int K_CONST = 200;
    private static final int K_TYPE = 201;
    private static final int K_IN = 202;
    private static final int K_OUT = 203;
    private static final int K_STATE = 204;
    private static final int K_VAR = 205;
    private static final int K_FUN = 206;
    private static final int K_IF = 207;
    private static final int K_ELSE = 208;
    private static final int K_CASE = 209;
    private static final int K_FOR = 210;
    private static final int K_TO = 211;
    private static final int K_ASSERT = 212;
    private static final int K_RETURN = 213;
    private static final int K_CYCLE = 214;
    private static final int K_BOOL = 215;
    private static final int K_TRUE = 216;
    private static final int K_FALSE = 217;
    private static final int K_MIN = 218;
    private static final int K_MAX = 219;
    private static final int K_ABS = 220;
    private static final int K_CLAMP = 221;
    /** In the order of the numbers above, each with a blank behind it. */
    private static final String KEYWORDS = "const type in out state var fun if else case for to assert return cycle bool true false min max abs clamp ";
    private static final String MARKS = "(){}[],;:?=+-*/%<>!";

    /** How a CYCLE stands: it goes on, or has LATCHED by 1, 2, 3, or is EMITTED. */
    private static final int GOES_ON = 0;
    private static final int TRAPPED = 1;
    private static final int OVERRUN = 2;
    private static final int DISAGREED = 3;
    private static final int EMITTED = 4;

    private final Reader reader;
    private final Machine machine;
    private final byte[] line;
    private int lineLength;
    private Declarations active;
    /** The compiler that the next tape goes to, so that a fault leaves the program that runs alone. */
    private Declarations waiting;

    public VitalTwin(int cells) {
        int many = Math.max(16, Math.min(4096, cells));
        Reader shared = new Reader();
        Declarations first = new Declarations(shared, many);
        reader = shared;
        active = first;
        waiting = new Declarations(shared, many);
        machine = new Machine(many, first.program);
        line = new byte[64];
    }

    public int feed(long a, long b) {
        return reader.add(a, b);
    }

    public int compile() {
        int fault = 0;
        try {
            waiting.readProgram();
        } catch (IllegalStateException found) {
            fault = reader.fault;
        }
        reader.clear();
        if (fault == 0) {
            Declarations done = waiting;
            waiting = active;
            active = done;
            machine.load(done.program);
        }
        return fault;
    }

    public int symbol(int i, int what) {
        Symbol told = active.program.at(i);
        return told == null ? NONE : told.answer(what);
    }

    public int name(int i, int k) {
        return active.program.signOfName(i, k);
    }

    public int code(int i, int what) {
        Code made = active.program.code;
        if (!made.has(i)) {
            return NONE;
        }
        switch (what) {
            case 0:
                return made.ops[i];
            case 1:
                return made.firsts[i];
            case 2:
                return made.seconds[i];
            default:
                return NONE;
        }
    }

    public long range(int i, int what) throws IndexOutOfBoundsException {
        Code made = active.program.code;
        if (!made.has(i) || what < 0 || what > 1) {
            throw new IndexOutOfBoundsException("no such INSTRUCTION or what");
        }
        return what == 0 ? made.lows[i] : made.highs[i];
    }

    public int text(int copy, int i, int k) {
        Code made = active.program.code;
        if (copy < 0 || copy > 1 || !made.has(i)) {
            return NONE;
        }
        spell(made.ops[i], made.firsts[i], made.seconds[i], copy == 0 ? 1 : CODING);
        return k < 0 || k >= lineLength ? NONE : line[k];
    }

    public boolean input(int k, int v) {
        return machine.give(k, v);
    }

    public int steps(int n) throws IllegalArgumentException, IllegalStateException {
        if (n < 1 || n > MOST_STEPS) {
            throw new IllegalArgumentException("n is not 1 .. 200000");
        }
        if (!machine.loaded) {
            throw new IllegalStateException("no program");
        }
        return machine.go(n);
    }

    public int cycle() throws IllegalStateException {
        if (!machine.loaded) {
            throw new IllegalStateException("no program");
        }
        machine.go(MANY);
        return machine.latched == 0 ? 1 : 0;
    }

    public int output(int k) throws IndexOutOfBoundsException {
        if (k < 0 || k >= machine.program.outs) {
            throw new IndexOutOfBoundsException("no such cell of out");
        }
        return machine.isPutOut(k);
    }

    public int past(int ahead, int k) throws IndexOutOfBoundsException {
        if (k < 0 || k >= machine.program.outs || !machine.keeps(ahead)) {
            throw new IndexOutOfBoundsException("no such CYCLE or cell of out");
        }
        return machine.wasPutOut(ahead, k);
    }

    public int probe(int copy, int where, int step, int what) {
        if (what < 0 || what > EMITTED || step < 0 || !machine.hasPlace(copy, where) || !machine.canProbe()) {
            return NONE;
        }
        return machine.tryBits(copy, where, step, what);
    }

    public long cell(int copy, int k) throws IndexOutOfBoundsException {
        if (k < 0 || !machine.hasPlace(copy, k)) {
            throw new IndexOutOfBoundsException("no such copy or cell");
        }
        return machine.run.of(copy).read(k);
    }

    public long register(int copy, int what) throws IndexOutOfBoundsException {
        if (copy < 0 || copy > 1 || what < 0 || what > 3) {
            throw new IndexOutOfBoundsException("no such copy or what");
        }
        Copy asked = machine.run.of(copy);
        if (what < 2) {
            return what == 0 ? asked.a : asked.b;
        }
        boolean runs = machine.run.running == copy + 1;
        if (what == 2) {
            return runs ? asked.next : NONE;
        }
        return runs ? asked.depth : 0;
    }

    public boolean flip(int copy, int where, int bit, int step) {
        return machine.hasPlace(copy, where) && machine.plan(copy, where, bit, step);
    }

    public boolean power() {
        if (!machine.loaded) {
            return false;
        }
        machine.restart();
        return true;
    }

    public int count(int what) {
        if (what == 0) {
            return reader.length;
        }
        if (!machine.loaded) {
            return NONE;
        }
        return what < 8 ? machine.program.answer(what) : machine.answer(what);
    }

    /** Writes an INSTRUCTION as a text into the line. */
    private void spell(int op, int first, int second, long one) {
        lineLength = 0;
        int start = op * WORD_SIGNS;
        for (int k = start; k < start + WORD_SIGNS && k < OP_WORDS.length(); k++) {
            if (OP_WORDS.charAt(k) != ' ') {
                spellSign(OP_WORDS.charAt(k));
            }
        }
        if (op == CONST || op == LOW || op == HIGH) {
            spellOperand(first * one);
        } else if (op == LOAD || op == STORE || op == LOADX || op == STOREX || op >= JUMP && op <= CALL) {
            spellOperand(first);
        }
        if (op == LOADX || op == STOREX) {
            spellOperand(second);
        }
    }

    private void spellOperand(long v) {
        spellSign(' ');
        if (v < 0) {
            spellSign('-');
        }
        long rest = Math.abs(v);
        long unit = 1;
        // an operand has at most 15 digits
        for (int n = 0; n < 16 && rest / unit >= 10; n++) {
            unit *= 10;
        }
        for (int n = 0; n < 17 && unit > 0; n++) {
            spellSign((char) ('0' + rest / unit % 10));
            unit /= 10;
        }
    }

    private void spellSign(char sign) {
        if (lineLength < line.length) {
            line[lineLength] = (byte) sign;
            lineLength++;
        }
    }

    /** The tape, and the token of it that is looked at. */
    private static final class Reader {
        int length;
        int token;
        /** Where the token begins. */
        int place;
        int tokenLength;
        /** The signs of the token, if it is a NAME or a NUMBER. */
        final byte[] signs = new byte[NAME_SIGNS];
        /** How many ( [ { ? and - ! in front hold what is read now. */
        int nested;
        int fault;
        private byte[] tape = new byte[FED_IN_A_RUN];
        /** The tokens of the tape: what they are, and 32 * place + length. */
        private byte[] kinds = new byte[FED_IN_A_RUN + 1];
        private int[] spots = new int[FED_IN_A_RUN + 1];
        private int many;
        private int at;

        int add(long a, long b) {
            int more = signsOf(a);
            int rest = signsOf(b);
            if (more < 0 || rest < 0 || length + more + rest > LONGEST_TAPE) {
                return NONE;
            }
            makeRoom(length + more + rest);
            append(a);
            append(b);
            return length;
        }

        /** How many signs eight bytes hold; NONE if one is no sign. */
        private static int signsOf(long bytes) {
            int found = 0;
            for (int shift = 56; shift >= 0; shift -= 8) {
                int sign = (int) (bytes >>> shift) & 255;
                if (sign != 0) {
                    if (sign != 10 && (sign < 32 || sign > 126)) {
                        return NONE;
                    }
                    found++;
                }
            }
            return found;
        }

        private void makeRoom(int due) {
            if (due > tape.length) {
                tape = Arrays.copyOf(tape, Math.max(due, 2 * tape.length));
            }
        }

        private void append(long bytes) {
            for (int shift = 56; shift >= 0; shift -= 8) {
                int sign = (int) (bytes >>> shift) & 255;
                if (sign != 0 && length < tape.length) {
                    tape[length] = (byte) sign;
                    length++;
                }
            }
        }

        void clear() {
            length = 0;
        }

        /** Makes the row of tokens, and looks at the first one. */
        void begin() {
            if (kinds.length <= length) {
                kinds = new byte[tape.length + 1];
                spots = new int[tape.length + 1];
            }
            many = 0;
            int k = 0;
            for (int n = 0; n < LONGEST_TAPE && k < length; n++) {
                int behind = behindToken(k);
                addToken(kindOf(k, behind), k, behind - k);
                k = behind;
            }
            addToken(END, length, 0);
            nested = 0;
            fault = 0;
            at = NONE;
            next();
        }

        private void addToken(int kind, int where, int itsLength) {
            if (kind != BETWEEN && many < kinds.length) {
                kinds[many] = (byte) kind;
                spots[many] = 32 * where + Math.min(31, itsLength);
                many++;
            }
        }

        private int signAt(int k) {
            return k >= 0 && k < length ? tape[k] : 0;
        }

        private static boolean isLetter(int sign) {
            return sign >= 'a' && sign <= 'z' || sign >= 'A' && sign <= 'Z' || sign == '_';
        }

        private static boolean isDigit(int sign) {
            return sign >= '0' && sign <= '9';
        }

        private boolean isComment(int k) {
            return signAt(k) == '/' && signAt(k + 1) == '/';
        }

        /** Where the token (or what stands between) that begins at k ends. */
        private int behindToken(int k) {
            int behind = k + 1;
            if (isLetter(signAt(k))) {
                while (behind < length && (isLetter(signAt(behind)) || isDigit(signAt(behind)))) {
                    behind++;
                }
            } else if (isDigit(signAt(k))) {
                while (behind < length && isDigit(signAt(behind))) {
                    behind++;
                }
            } else if (isComment(k)) {
                while (behind < length && signAt(behind) != 10) {
                    behind++;
                }
            } else if (markOfTwo(signAt(k), signAt(behind)) != NO_TOKEN) {
                behind++;
            }
            return behind;
        }

        private int kindOf(int k, int behind) {
            int sign = signAt(k);
            if (sign == ' ' || sign == 10 || isComment(k)) {
                return BETWEEN;
            }
            if (isLetter(sign)) {
                return behind - k > NAME_SIGNS ? NO_TOKEN : wordOrName(k, behind - k);
            }
            if (isDigit(sign)) {
                return behind - k > 10 || numberAt(k, behind - k) > GREATEST ? NO_TOKEN : NUMBER;
            }
            if (behind - k == 2) {
                return markOfTwo(sign, signAt(k + 1));
            }
            return MARKS.indexOf((char) sign) >= 0 ? sign : NO_TOKEN;
        }

        private int wordOrName(int k, int itsLength) {
            int word = K_CONST;
            int matched = 0;
            boolean same = true;
            for (int n = 0; n < KEYWORDS.length(); n++) {
                char sign = KEYWORDS.charAt(n);
                if (sign == ' ') {
                    if (same && matched == itsLength) {
                        return word;
                    }
                    word++;
                    matched = 0;
                    same = true;
                } else {
                    same = same && signAt(k + matched) == sign;
                    matched++;
                }
            }
            return NAME;
        }

        private static int markOfTwo(int sign, int second) {
            if (second == '=') {
                switch (sign) {
                    case '<':
                        return AT_MOST;
                    case '>':
                        return AT_LEAST;
                    case '=':
                        return SAME;
                    case '!':
                        return OTHER;
                    default:
                        return NO_TOKEN;
                }
            }
            if (sign != second) {
                return NO_TOKEN;
            }
            return sign == '.' ? DOTS : sign == '&' ? BOTH : sign == '|' ? EITHER : NO_TOKEN;
        }

        /** The number that so many digits (at most ten) from k on tell. */
        private long numberAt(int k, int digits) {
            long number = 0;
            for (int n = 0; n < digits; n++) {
                number = 10 * number + signAt(k + n) - '0';
            }
            return number;
        }

        /** What the token tells, if it is a NUMBER. */
        int number() {
            int number = 0;
            for (int k = 0; k < tokenLength && k < signs.length; k++) {
                number = 10 * number + signs[k] - '0';
            }
            return number;
        }

        /** Looks at the next token; behind the END there is none. */
        void next() {
            if (at + 1 < many) {
                at++;
                token = kinds[at] & 255;
                place = spots[at] / 32;
                tokenLength = spots[at] % 32;
            }
            if (token == NAME || token == NUMBER) {
                for (int k = 0; k < tokenLength && k < signs.length && place + k < tape.length; k++) {
                    signs[k] = tape[place + k];
                }
            }
        }

        /** Ends the reading of the program; compile takes the fault from here. */
        void fail(int kind, int where) {
            fault = kind + 16 * where;
            throw new IllegalStateException("the program has a fault");
        }

        void expect(int due) {
            if (token != due) {
                fail(BAD_TOKEN, place);
            }
            next();
        }

        /** What stands behind the mark stands one deeper; whoever calls it takes 1 from nested at the end of that. */
        void open(int mark) {
            if (token != mark) {
                fail(BAD_TOKEN, place);
            }
            if (nested >= MOST_NESTED) {
                fail(TOO_MUCH, place);
            }
            nested++;
            next();
        }

        void close(int mark) {
            if (token != mark) {
                fail(BAD_TOKEN, place);
            }
            nested--;
            next();
        }
    }

    /** What a program tells by a name. */
    private static final class Symbol {
        final int number;
        int kind;
        int type;
        int low;
        int high;
        int cell;
        int length;
        /** The SYMBOL of the fun that it is in. */
        int owner;
        int value;
        int bound;
        /** Of a fun: how many calls stand within one another while it is called. */
        int level;
        /** The fun (or cycle, the last) whose cells it lies among; NONE of in, out, state. */
        int unit;
        boolean array;
        boolean visible;
        int nameLength;

        Symbol(int number) {
            this.number = number;
        }

        void begin(int newKind) {
            kind = newKind;
            type = NOTHING;
            low = 0;
            high = 0;
            cell = NONE;
            length = 1;
            owner = NONE;
            value = 0;
            bound = 0;
            level = 0;
            unit = NONE;
            array = false;
            visible = false;
        }

        void setType(int newType, int newLow, int newHigh) {
            type = newType;
            low = newLow;
            high = newHigh;
        }

        int answer(int what) {
            switch (what) {
                case 0:
                    return kind;
                case 1:
                    return type;
                case 2:
                    return low;
                case 3:
                    return high;
                case 4:
                    return cell;
                case 5:
                    return length;
                case 6:
                    return owner;
                case 7:
                    return value;
                case 8:
                    return bound;
                default:
                    return NONE;
            }
        }
    }

    /** A program that was read: its SYMBOLS, its CODE, and how large it is. */
    private static final class Program {
        final Code code = new Code();
        int told;
        int cells;
        /** The first INSTRUCTION of cycle; NONE while funs are read. */
        int start;
        int bound;
        int ins;
        int outs;
        private final Symbol[] symbols = new Symbol[MOST_SYMBOLS];
        private final byte[] names = new byte[MOST_SYMBOLS * NAME_SIGNS];

        void clear() {
            code.clear();
            told = 0;
            cells = 0;
            start = NONE;
            bound = 0;
            ins = 0;
            outs = 0;
        }

        Symbol at(int i) {
            return i < 0 || i >= told || i >= symbols.length ? null : symbols[i];
        }

        int signOfName(int i, int k) {
            Symbol asked = at(i);
            return asked == null || k < 0 || k >= asked.nameLength ? NONE : names[asked.number * NAME_SIGNS + k];
        }

        /** The visible SYMBOL that the token names, or null. */
        Symbol find(Reader reader) {
            for (int i = 0; i < told && i < symbols.length; i++) {
                Symbol known = symbols[i];
                if (known != null && known.visible && known.nameLength == reader.tokenLength) {
                    int k = 0;
                    while (k < known.nameLength && names[i * NAME_SIGNS + k] == reader.signs[k]) {
                        k++;
                    }
                    if (k == known.nameLength) {
                        return known;
                    }
                }
            }
            return null;
        }

        /** The greatest that a value of this type can be, that of an INT being itself. */
        int highOf(int type, int itself) {
            if (type == INT) {
                return itself;
            }
            int i = type - ENUM;
            return i >= 0 && i < told && symbols[i] != null ? symbols[i].high : 1;
        }

        /** Tells the name that the token is; full: there is no room for one more of its kind. */
        Symbol tell(int kind, boolean full, Reader reader) {
            if (reader.token != NAME) {
                reader.fail(BAD_TOKEN, reader.place);
            }
            if (find(reader) != null) {
                reader.fail(TOLD_AGAIN, reader.place);
            }
            if (full || told >= MOST_SYMBOLS) {
                reader.fail(TOO_MUCH, reader.place);
            }
            Symbol made = symbols[told];
            if (made == null) {
                made = new Symbol(told);
                symbols[told] = made;
            }
            made.begin(kind);
            // a NAME is never longer than the rows have room for
            made.nameLength = Math.min(NAME_SIGNS, reader.tokenLength);
            for (int k = 0; k < made.nameLength; k++) {
                names[made.number * NAME_SIGNS + k] = reader.signs[k];
            }
            told++;
            reader.next();
            return made;
        }

        void hideFrom(int first) {
            for (int i = Math.max(0, first); i < told; i++) {
                Symbol known = at(i);
                if (known != null) {
                    known.visible = false;
                }
            }
        }

        /** Gives the variables of funs and of cycle their places, when all that lies ahead of them is known. */
        void placeLocals() {
            cells = code.settle(cells);
            for (int i = 0; i < told; i++) {
                Symbol known = at(i);
                if (known != null && known.unit >= 0 && known.unit < MOST_SYMBOLS + 1) {
                    known.cell += code.unitLocals[known.unit];
                }
            }
        }

        /** The cell that is the k-th of all in or out, or NONE. */
        int cellOf(int kind, int k) {
            int rest = k;
            for (int i = 0; i < told && rest >= 0; i++) {
                Symbol known = at(i);
                if (known != null && known.kind == kind) {
                    if (rest < known.length) {
                        return known.cell + rest;
                    }
                    rest -= known.length;
                }
            }
            return NONE;
        }

        /** The in or out that has the k-th cell of all of its kind, or null. */
        Symbol portOf(int kind, int k) {
            int cell = cellOf(kind, k);
            for (int i = 0; i < told && cell >= 0; i++) {
                Symbol known = at(i);
                if (known != null && known.kind == kind && cell >= known.cell && cell < known.cell + known.length) {
                    return known;
                }
            }
            return null;
        }

        int answer(int what) {
            switch (what) {
                case 1:
                    return told;
                case 2:
                    return code.size;
                case 3:
                    return cells;
                case 4:
                    return start;
                case 5:
                    return bound;
                case 6:
                    return ins;
                case 7:
                    return outs;
                default:
                    return NONE;
            }
        }
    }

    /** The INSTRUCTIONS that were made, and what is known of the fun (or cycle) that is made now. */
    private static final class Code {
        static final int MOST_BOUND = 400000;
        static final int ROOM_FOR_TEMPS = 1024;
        static final int UNITS = MOST_SYMBOLS + 1;

        final int[] ops = new int[MOST_CODE];
        final int[] firsts = new int[MOST_CODE];
        final int[] seconds = new int[MOST_CODE];
        final int[] lows = new int[MOST_CODE];
        final int[] highs = new int[MOST_CODE];
        /** Whose cells the first operand counts from: 0 none's, 2 u + 1 the variables' of unit u, 2 u + 2 its TEMPS'. */
        private final int[] homes = new int[MOST_CODE];
        /** Counts on beyond what is stored, as the fault is told at the end alone. */
        int size;
        /** INSTRUCTIONS on the longest way to here, of the unit. */
        int bound;
        int unit;
        int locals;
        int temps;
        int mostTemps;
        /** The highest level of the funs that the unit calls. */
        int deepest;
        /** How many variables and TEMPS each unit has; settle makes of it where they begin. */
        final int[] unitLocals = new int[UNITS];
        private final int[] unitTemps = new int[UNITS];
        private final int[] tempLows = new int[ROOM_FOR_TEMPS];
        private final int[] tempHighs = new int[ROOM_FOR_TEMPS];

        void clear() {
            size = 0;
            unit = 0;
            beginUnit();
        }

        private void beginUnit() {
            bound = 0;
            locals = 0;
            temps = 0;
            mostTemps = 0;
            deepest = 0;
        }

        void endUnit() {
            if (unit < UNITS) {
                unitLocals[unit] = locals;
                unitTemps[unit] = mostTemps;
            }
            unit++;
            beginUnit();
        }

        boolean has(int i) {
            return i >= 0 && i < size && i < ops.length;
        }

        private void put(int op, int first, int second, int low, int high, int home) {
            int i = size;
            if (i < ops.length) {
                ops[i] = op;
                firsts[i] = first;
                seconds[i] = second;
                lows[i] = low;
                highs[i] = high;
                homes[i] = home;
            }
            size++;
            bound = Math.min(MOST_BOUND, bound + 1);
        }

        /** An INSTRUCTION that leaves A alone: its number. */
        int add(int op, int first) {
            put(op, first, 0, 1, 0, 0);
            return size - 1;
        }

        /** An INSTRUCTION that sets A, to low .. high. */
        void set(int op, int first, int low, int high) {
            put(op, first, 0, low, high, 0);
        }

        private static int homeOf(Symbol variable) {
            return variable.unit < 0 ? 0 : 2 * variable.unit + 1;
        }

        private int homeOfTemps() {
            return 2 * unit + 2;
        }

        void load(Symbol variable, int low, int high) {
            put(LOAD, variable.cell, 0, low, high, homeOf(variable));
        }

        void store(Symbol variable, int element) {
            put(STORE, variable.cell + element, 0, 1, 0, homeOf(variable));
        }

        void loadElement(Symbol array) {
            put(LOADX, array.cell, array.length, array.low, array.high, homeOf(array));
        }

        void storeElement(Symbol array) {
            put(STOREX, array.cell, array.length, 1, 0, homeOf(array));
        }

        /** STORE into the lowest TEMP that is not in use, which is in use then: its number. */
        int keep(int low, int high) {
            int temp = temps;
            temps++;
            mostTemps = Math.max(mostTemps, temps);
            if (temp < ROOM_FOR_TEMPS) {
                tempLows[temp] = low;
                tempHighs[temp] = high;
            }
            put(STORE, temp, 0, 1, 0, homeOfTemps());
            return temp;
        }

        void loadTemp(int temp) {
            boolean known = temp >= 0 && temp < ROOM_FOR_TEMPS;
            put(LOAD, temp, 0, known ? tempLows[temp] : 0, known ? tempHighs[temp] : 0, homeOfTemps());
        }

        /** MOVE, LOAD T, the OP, for the T that was kept last. */
        void combine(int op, int low, int high) {
            put(MOVE, 0, 0, 1, 0, 0);
            temps = Math.max(0, Math.min(ROOM_FOR_TEMPS, temps) - 1);
            put(LOAD, temps, 0, tempLows[temps], tempHighs[temps], homeOfTemps());
            put(op, 0, 0, low, high, 0);
        }

        /** Takes what is kept in a TEMP to a parameter. */
        void pass(int temp, Symbol parameter) {
            boolean known = temp >= 0 && temp < ROOM_FOR_TEMPS;
            put(LOAD, temp, 0, known ? tempLows[temp] : 0, known ? tempHighs[temp] : 0, homeOfTemps());
            put(STORE, parameter.cell, 0, 1, 0, homeOf(parameter));
        }

        void call(Symbol fun) {
            put(CALL, fun.cell, 0, 1, 0, 0);
            deepest = Math.max(deepest, fun.level);
            spend(fun.bound);
        }

        void spend(long more) {
            bound = (int) Math.min(MOST_BOUND, bound + more);
        }

        /** The jump goes to what comes next. */
        void land(int jump) {
            if (has(jump)) {
                firsts[jump] = size;
            }
        }

        /** All jumps of a chain, each holding the one ahead of it as its operand, go to what comes next. */
        void landAll(int last) {
            int jump = last;
            for (int n = 0; n < MANY && has(jump); n++) {
                int ahead = firsts[jump];
                firsts[jump] = size;
                jump = ahead;
            }
        }

        /** Turns numbers of variables and TEMPS into cells, which begin behind the globals: how many cells there are. */
        int settle(int globals) {
            int cells = globals;
            for (int u = 0; u < unit && u < UNITS; u++) {
                int variables = unitLocals[u];
                unitLocals[u] = cells;
                cells += variables;
                int used = unitTemps[u];
                unitTemps[u] = cells;
                cells += used;
            }
            for (int i = 0; i < size && i < ops.length; i++) {
                int u = (homes[i] - 1) / 2;
                if (homes[i] > 0 && u < UNITS) {
                    firsts[i] += homes[i] % 2 == 1 ? unitLocals[u] : unitTemps[u];
                }
            }
            return cells;
        }
    }

    /** Reads C and TYPE. */
    private static final class Constants {
        /** The type that is asked of a C that may have any. */
        static final int ANY = -1;

        /** Of the C that was read last. */
        int type;
        int value;
        /** The place of its first token. */
        int from;
        private final Reader reader;
        private final Program program;

        Constants(Reader reader, Program program) {
            this.reader = reader;
            this.program = program;
        }

        /** C of a type: its value. */
        int read(int due) {
            from = reader.place;
            boolean minus = reader.token == '-';
            if (minus) {
                reader.next();
            }
            if (reader.token == NUMBER) {
                type = INT;
                value = reader.number();
            } else if (reader.token == NAME) {
                Symbol named = program.find(reader);
                boolean isOne = named != null && (named.kind == IS_CONST || named.kind == IS_MEMBER);
                if (!isOne) {
                    reader.fail(BAD_NAME, reader.place);
                }
                type = isOne ? named.type : INT;
                value = isOne ? named.value : 0;
            } else if (!minus && (reader.token == K_TRUE || reader.token == K_FALSE)) {
                type = BOOL;
                value = reader.token == K_TRUE ? 1 : 0;
            } else {
                reader.fail(BAD_TOKEN, reader.place);
            }
            if (minus && type != INT || due != ANY && type != due) {
                reader.fail(BAD_TYPE, from);
            }
            value = minus ? -value : value;
            reader.next();
            return value;
        }

        /** Asks of the C that was read that it is not below the one ahead of it. */
        void askNotBelow(int first) {
            if (value < first) {
                reader.fail(BAD_ORDER, from);
            }
        }

        /** C that goes to what has this type and RANGE: its value. */
        int readFor(Symbol target) {
            read(target.type);
            if (value < target.low || value > target.high) {
                reader.fail(NOT_WITHIN, from);
            }
            return value;
        }

        /** [ C ], if there is a [. */
        void readLength(Symbol told) {
            if (reader.token != '[') {
                return;
            }
            reader.open('[');
            told.array = true;
            told.length = read(INT);
            if (told.length < 1 || told.length > 4096) {
                reader.fail(BAD_ORDER, from);
            }
            reader.close(']');
        }

        /** TYPE, of what is told. */
        void readType(Symbol told) {
            if (reader.token == K_BOOL) {
                told.setType(BOOL, 0, 1);
                reader.next();
                return;
            }
            Symbol named = reader.token == NAME ? program.find(reader) : null;
            if (named != null && named.kind == IS_TYPE) {
                told.setType(named.type, 0, named.high);
                reader.next();
                return;
            }
            int low = read(INT);
            reader.expect(DOTS);
            int high = read(INT);
            askNotBelow(low);
            told.setType(INT, low, high);
        }
    }

    /** Reads e and makes its code. */
    private static final class Expressions {
        static final int EITHERS = 1;
        static final int BOTHS = 2;
        static final int COMPARES = 3;
        static final int SUMS = 4;
        static final int PRODUCTS = 5;
        static final int FRONTS = 6;
        /** 64 things within one another hold at most five operators each, and each may be a front. */
        static final int ROOM = 512;

        /** Of the e that was read last, or of what was read of it. */
        int type;
        int low;
        int high;
        /** The place of its first token. */
        int from;
        private final Reader reader;
        private final Program program;
        private final Code code;
        private final Constants constants;
        /** The operators whose last operand is not read to its end: where they stand, and what their first one was. */
        private final int[] marks = new int[ROOM];
        private final int[] levels = new int[ROOM];
        private final int[] places = new int[ROOM];
        private final int[] types = new int[ROOM];
        private final int[] lows = new int[ROOM];
        private final int[] highs = new int[ROOM];
        private final int[] jumps = new int[ROOM];
        private int pending;

        Expressions(Reader reader, Program program, Constants constants) {
            this.reader = reader;
            this.program = program;
            this.code = program.code;
            this.constants = constants;
        }

        void clear() {
            pending = 0;
        }

        /** Operators wait in rows for their last operand: only what is held by ( [ ? makes this method call itself. */
        void expression() {
            int start = reader.place;
            int base = pending;
            boolean more = true;
            for (int n = 0; n < MANY && more; n++) {
                readFronts();
                if (reader.token == NAME) {
                    named();
                } else {
                    operand();
                }
                int level = levelOfNext(base);
                for (int m = 0; m < ROOM && pending > base && levels[pending - 1] >= level; m++) {
                    pending--;
                    finish();
                    if (levels[pending] <= BOTHS) {
                        code.land(jumps[pending]);
                    } else if (levels[pending] == FRONTS) {
                        reader.nested--;
                        code.set(opOf(marks[pending], true), 0, low, high);
                    } else {
                        code.combine(opOf(marks[pending], false), low, high);
                    }
                }
                more = level > 0;
                if (more) {
                    begin(level);
                }
            }
            if (reader.token == '?') {
                choice();
            }
            from = start;
        }

        /** The level of the token as an operator of this e; 0 where the e ends, as it does at its second comparison. */
        private int levelOfNext(int base) {
            int level = levelOf(reader.token);
            if (level == COMPARES) {
                for (int k = base; k < pending; k++) {
                    if (levels[k] == COMPARES) {
                        return 0;
                    }
                }
            }
            return level;
        }

        private static int levelOf(int token) {
            switch (token) {
                case EITHER:
                    return EITHERS;
                case BOTH:
                    return BOTHS;
                case '<':
                case '>':
                case AT_MOST:
                case AT_LEAST:
                case SAME:
                case OTHER:
                    return COMPARES;
                case '+':
                case '-':
                    return SUMS;
                case '*':
                case '/':
                case '%':
                    return PRODUCTS;
                default:
                    return 0;
            }
        }

        private void readFronts() {
            for (int n = 0; n < MANY && (reader.token == '-' || reader.token == '!'); n++) {
                push(FRONTS, NONE);
                reader.open(reader.token);
            }
        }

        private void push(int level, int jump) {
            if (pending >= ROOM) {
                reader.fail(TOO_MUCH, reader.place);
            }
            marks[pending] = reader.token;
            levels[pending] = level;
            places[pending] = reader.place;
            types[pending] = type;
            lows[pending] = low;
            highs[pending] = high;
            jumps[pending] = jump;
            pending++;
        }

        /** An operator behind its first operand. */
        private void begin(int level) {
            int jump = NONE;
            if (level <= BOTHS) {
                jump = code.add(level == EITHERS ? JNZ : JZ, 0);
            } else {
                code.keep(low, high);
            }
            push(level, jump);
            reader.next();
        }

        /** The last operand of the operator is read to its end: asks what is asked, and makes it what was read. */
        private void finish() {
            int first = types[pending];
            switch (levels[pending]) {
                case FRONTS:
                    askType(type == (marks[pending] == '-' ? INT : BOOL));
                    if (type == INT) {
                        set(INT, -high, -low);
                    }
                    break;
                case EITHERS:
                case BOTHS:
                    askType(first == BOOL && type == BOOL);
                    break;
                case COMPARES:
                    boolean ofAny = marks[pending] == SAME || marks[pending] == OTHER;
                    askType(first == type && (ofAny || type == INT));
                    set(BOOL, 0, 1);
                    break;
                default:
                    askType(first == INT && type == INT);
                    finishSum(marks[pending], lows[pending], highs[pending]);
            }
        }

        private void askType(boolean right) {
            if (!right) {
                reader.fail(BAD_TYPE, places[pending]);
            }
        }

        private void set(int newType, int newLow, int newHigh) {
            type = newType;
            low = newLow;
            high = newHigh;
        }

        private static int opOf(int mark, boolean inFront) {
            switch (mark) {
                case '+':
                    return ADD;
                case '-':
                    return inFront ? NEG : SUB;
                case '*':
                    return MUL;
                case '/':
                    return DIV;
                case '%':
                    return REM;
                case '<':
                    return LT;
                case AT_MOST:
                    return LE;
                case '>':
                    return GT;
                case AT_LEAST:
                    return GE;
                case SAME:
                    return EQ;
                case OTHER:
                    return NE;
                default:
                    return NOT;
            }
        }

        private void finishSum(int mark, long firstLow, long firstHigh) {
            if ((mark == '/' || mark == '%') && low <= 0 && high >= 0) {
                reader.fail(BY_ZERO, places[pending]);
            }
            long one = result(mark, firstLow, low);
            long two = result(mark, firstLow, high);
            long three = result(mark, firstHigh, low);
            long four = result(mark, firstHigh, high);
            long least = Math.min(Math.min(one, two), Math.min(three, four));
            long most = Math.max(Math.max(one, two), Math.max(three, four));
            if (mark == '%') {
                long rest = Math.max(Math.abs((long) low), Math.abs((long) high)) - 1;
                least = firstLow < 0 ? Math.max(-rest, firstLow) : 0;
                most = firstHigh > 0 ? Math.min(rest, firstHigh) : 0;
            }
            if (least < -GREATEST || most > GREATEST) {
                reader.fail(BEYOND, places[pending]);
            }
            low = (int) least;
            high = (int) most;
        }

        private static long result(int mark, long a, long b) {
            switch (mark) {
                case '+':
                    return a + b;
                case '-':
                    return a - b;
                case '*':
                    return a * b;
                default:
                    return b == 0 ? 0 : a / b;
            }
        }

        private void choice() {
            int place = reader.place;
            int asked = type;
            reader.open('?');
            int skip = code.add(JZ, 0);
            int bound = code.bound;
            expression();
            int firstType = type;
            int firstLow = low;
            int firstHigh = high;
            reader.expect(':');
            int over = code.add(JUMP, 0);
            int longest = code.bound;
            code.bound = bound;
            code.land(skip);
            expression();
            if (asked != BOOL || firstType != type) {
                reader.fail(BAD_TYPE, place);
            }
            reader.nested--;
            set(type, Math.min(firstLow, low), Math.max(firstHigh, high));
            code.land(over);
            code.bound = Math.max(longest, code.bound);
        }

        private void operand() {
            int token = reader.token;
            switch (token) {
                case NUMBER:
                    set(INT, reader.number(), reader.number());
                    code.set(CONST, low, low, high);
                    reader.next();
                    break;
                case K_TRUE:
                case K_FALSE:
                    set(BOOL, 0, 1);
                    code.set(CONST, token == K_TRUE ? 1 : 0, low, high);
                    reader.next();
                    break;
                case '(':
                    reader.open('(');
                    expression();
                    reader.close(')');
                    break;
                case K_MIN:
                case K_MAX:
                    extreme(token == K_MIN);
                    break;
                case K_ABS:
                    absolute();
                    break;
                case K_CLAMP:
                    clamp();
                    break;
                default:
                    reader.fail(BAD_TOKEN, reader.place);
            }
        }

        /** min, max, abs, clamp take INTS; the last one was read. */
        private void askInts(int firstType, int place) {
            if (firstType != INT || type != INT) {
                reader.fail(BAD_TYPE, place);
            }
        }

        private void extreme(boolean least) {
            int place = reader.place;
            reader.next();
            reader.open('(');
            expression();
            int firstType = type;
            int firstLow = low;
            int firstHigh = high;
            code.keep(low, high);
            reader.expect(',');
            expression();
            askInts(firstType, place);
            if (least) {
                set(INT, Math.min(firstLow, low), Math.min(firstHigh, high));
            } else {
                set(INT, Math.max(firstLow, low), Math.max(firstHigh, high));
            }
            code.combine(least ? MIN : MAX, low, high);
            reader.close(')');
        }

        private void absolute() {
            int place = reader.place;
            reader.next();
            reader.open('(');
            expression();
            askInts(type, place);
            boolean hasZero = low <= 0 && high >= 0;
            int least = hasZero ? 0 : Math.min(Math.abs(low), Math.abs(high));
            set(INT, least, Math.max(Math.abs(low), Math.abs(high)));
            code.set(ABS, 0, low, high);
            reader.close(')');
        }

        private void clamp() {
            int place = reader.place;
            reader.next();
            reader.open('(');
            expression();
            askInts(type, place);
            reader.expect(',');
            int least = constants.read(INT);
            set(INT, Math.max(low, least), Math.max(high, least));
            code.set(LOW, least, low, high);
            reader.expect(',');
            int most = constants.read(INT);
            constants.askNotBelow(least);
            set(INT, Math.min(low, most), Math.min(high, most));
            code.set(HIGH, most, low, high);
            reader.close(')');
        }

        private void named() {
            int place = reader.place;
            Symbol used = program.find(reader);
            if (used == null || used.kind == IS_TYPE) {
                reader.fail(BAD_NAME, place);
                return;
            }
            reader.next();
            askUse(used, place);
            if (used.kind == IS_FUN) {
                if (used.type == NOTHING) {
                    reader.fail(BAD_TYPE, place);
                }
                call(used, place);
            } else if (used.array) {
                index(used);
                set(used.type, used.low, used.high);
                code.loadElement(used);
            } else if (used.kind == IS_CONST || used.kind == IS_MEMBER) {
                set(used.type, used.type == INT ? used.value : 0, program.highOf(used.type, used.value));
                code.set(CONST, used.value, low, high);
            } else {
                set(used.type, used.low, used.high);
                code.load(used, low, high);
            }
        }

        /** A fun goes with (, an array with [, all else with neither; the token behind the name is looked at. */
        void askUse(Symbol used, int place) {
            boolean called = reader.token == '(';
            boolean indexed = reader.token == '[';
            if (called != (used.kind == IS_FUN) || indexed != used.array) {
                reader.fail(BAD_NAME, place);
            }
        }

        /** [ e ] behind the name of an array. */
        void index(Symbol array) {
            reader.open('[');
            expression();
            askToSuit(INT, 0, array.length - 1);
            reader.close(']');
        }

        /** Asks of the e that was read what has to be where it goes. */
        void askToSuit(int due, int least, int most) {
            if (type != due) {
                reader.fail(BAD_TYPE, from);
            }
            if (low < least || high > most) {
                reader.fail(NOT_WITHIN, from);
            }
        }

        /** The ES of a call and its code, behind the name, which stands at the place. */
        void call(Symbol fun, int place) {
            // a call in a fun stands within a call of that
            boolean inFun = program.start == NONE;
            if (fun.level + (inFun ? 1 : 0) > MOST_CALLS) {
                reader.fail(TOO_MUCH, place);
            }
            reader.open('(');
            int first = code.temps;
            int given = 0;
            boolean more = reader.token != ')';
            for (int n = 0; n < MANY && more; n++) {
                expression();
                // one too many goes nowhere
                Symbol parameter = given < fun.length ? program.at(fun.number + 1 + given) : null;
                if (parameter != null) {
                    askToSuit(parameter.type, parameter.low, parameter.high);
                    code.keep(low, high);
                }
                given++;
                more = reader.token == ',';
                if (more) {
                    reader.next();
                }
            }
            if (reader.token == ')' && given != fun.length) {
                reader.fail(BAD_NUMBER_OF_ES, reader.place);
            }
            reader.close(')');
            for (int k = 0; k < fun.length; k++) {
                Symbol parameter = program.at(fun.number + 1 + k);
                if (parameter != null) {
                    code.pass(first + k, parameter);
                }
            }
            code.temps = first;
            code.call(fun);
            set(fun.type, fun.low, fun.high);
        }
    }

    /** Reads STATEMENTS and makes their code. */
    private static final class Statements {
        /** The SYMBOL of the fun that is read, or NONE. */
        int owner;
        private final Reader reader;
        private final Program program;
        private final Code code;
        private final Constants constants;
        private final Expressions expressions;

        Statements(Reader reader, Program program, Constants constants) {
            this.reader = reader;
            this.program = program;
            this.code = program.code;
            this.constants = constants;
            this.expressions = new Expressions(reader, program, constants);
        }

        void clear() {
            owner = NONE;
            expressions.clear();
        }

        /** A BLOCK, to whose end all from SYMBOL first on is visible; result: the fun whose return ends it, or null. */
        void block(int first, Symbol result) {
            reader.open('{');
            for (int n = 0; n < MANY && reader.token != '}' && (result == null || reader.token != K_RETURN); n++) {
                statement();
            }
            if (result != null) {
                reader.expect(K_RETURN);
                expressions.expression();
                expressions.askToSuit(result.type, result.low, result.high);
                reader.expect(';');
            }
            reader.close('}');
            program.hideFrom(first);
        }

        private void statement() {
            switch (reader.token) {
                case K_VAR:
                    variable();
                    break;
                case K_ASSERT:
                    reader.next();
                    condition();
                    code.add(CHECK, 0);
                    reader.expect(';');
                    break;
                case K_CASE:
                    cases();
                    break;
                case K_IF:
                    ifs();
                    break;
                case K_FOR:
                    rounds();
                    break;
                case NAME:
                    int place = reader.place;
                    Symbol used = beginning();
                    if (used != null && used.kind == IS_FUN) {
                        expressions.call(used, place);
                    } else if (used != null) {
                        assign(used);
                    }
                    reader.expect(';');
                    break;
                default:
                    reader.fail(BAD_TOKEN, reader.place);
            }
        }

        private void condition() {
            expressions.expression();
            expressions.askToSuit(BOOL, 0, 1);
        }

        /** Gives a parameter or a variable cells of its own among those of the fun, or of cycle. */
        void place(Symbol told) {
            told.owner = owner;
            told.unit = code.unit;
            told.cell = code.locals;
            code.locals += told.length;
        }

        private void variable() {
            reader.next();
            Symbol told = program.tell(IS_VAR, false, reader);
            constants.readLength(told);
            reader.expect(':');
            constants.readType(told);
            place(told);
            reader.expect('=');
            if (told.array) {
                int value = constants.readFor(told);
                code.set(CONST, value, told.type == INT ? value : 0, program.highOf(told.type, value));
            } else {
                expressions.expression();
                expressions.askToSuit(told.type, told.low, told.high);
            }
            for (int k = 0; k < told.length; k++) {
                code.store(told, k);
            }
            reader.expect(';');
            told.visible = true;
        }

        /** What a STATEMENT begins with: a fun that is called, or something that is assigned. */
        private Symbol beginning() {
            int place = reader.place;
            Symbol used = program.find(reader);
            if (used == null || !canBegin(used.kind)) {
                reader.fail(BAD_NAME, place);
                return null;
            }
            reader.next();
            expressions.askUse(used, place);
            return used;
        }

        private static boolean canBegin(int kind) {
            return kind == IS_OUT || kind == IS_STATE || kind == IS_FUN || kind == IS_PARAMETER || kind == IS_VAR;
        }

        private void assign(Symbol used) {
            int temp = code.temps;
            if (used.array) {
                expressions.index(used);
                code.keep(expressions.low, expressions.high);
            }
            reader.expect('=');
            expressions.expression();
            expressions.askToSuit(used.type, used.low, used.high);
            if (used.array) {
                code.keep(expressions.low, expressions.high);
                code.loadTemp(temp);
                code.add(MOVE, 0);
                code.loadTemp(temp + 1);
                code.storeElement(used);
                code.temps = temp;
            } else {
                code.store(used, 0);
            }
        }

        /** An if with all that stands behind its elses: the JUMPs behind the BLOCKs go behind the whole. */
        private void ifs() {
            int ends = NONE;
            int longest = 0;
            boolean more = true;
            for (int n = 0; n < MANY && more; n++) {
                reader.next();
                reader.open('(');
                condition();
                reader.close(')');
                int skip = code.add(JZ, 0);
                int bound = code.bound;
                block(program.told, null);
                boolean otherwise = reader.token == K_ELSE;
                if (otherwise) {
                    ends = code.add(JUMP, ends);
                    longest = Math.max(longest, code.bound);
                    code.bound = bound;
                    reader.next();
                }
                code.land(skip);
                more = otherwise && reader.token == K_IF;
                if (otherwise && !more) {
                    block(program.told, null);
                }
            }
            code.landAll(ends);
            code.bound = Math.max(longest, code.bound);
        }

        private void cases() {
            reader.next();
            reader.open('(');
            expressions.expression();
            int type = expressions.type;
            if (type == BOOL) {
                reader.fail(BAD_TYPE, expressions.from);
            }
            reader.close(')');
            int temp = code.keep(expressions.low, expressions.high);
            reader.open('{');
            int ends = NONE;
            int longest = 0;
            for (int n = 0; n < MANY && reader.token != '}' && reader.token != K_ELSE; n++) {
                int skips = arm(type, temp);
                int bound = code.bound;
                block(program.told, null);
                ends = code.add(JUMP, ends);
                longest = Math.max(longest, code.bound);
                code.bound = bound;
                code.landAll(skips);
            }
            if (reader.token == K_ELSE) {
                reader.next();
                block(program.told, null);
            }
            reader.close('}');
            code.landAll(ends);
            code.bound = Math.max(longest, code.bound);
            code.temps = temp;
        }

        /** C : or C .. C : of an ARM: the chain of jumps to the next one. */
        private int arm(int type, int temp) {
            int value = constants.read(type);
            boolean ofTwo = reader.token == DOTS;
            if (ofTwo && type != INT) {
                reader.fail(BAD_ORDER, reader.place);
            }
            int skips = test(value, temp, ofTwo ? GE : EQ, NONE);
            if (ofTwo) {
                reader.next();
                int last = constants.read(INT);
                constants.askNotBelow(value);
                skips = test(last, temp, LE, skips);
            }
            reader.expect(':');
            return skips;
        }

        private int test(int value, int temp, int op, int skips) {
            code.set(CONST, value, value, value);
            code.add(MOVE, 0);
            code.loadTemp(temp);
            code.set(op, 0, 0, 1);
            return code.add(JZ, skips);
        }

        private void rounds() {
            reader.next();
            Symbol told = program.tell(IS_FOR, false, reader);
            place(told);
            reader.expect('=');
            int first = constants.read(INT);
            reader.expect(K_TO);
            int last = constants.read(INT);
            constants.askNotBelow(first);
            told.setType(INT, first, last);
            told.visible = true;
            code.set(CONST, first, first, first);
            code.store(told, 0);
            int ahead = code.bound;
            int back = code.size;
            code.set(CONST, last, last, last);
            code.add(MOVE, 0);
            code.load(told, first, last + 1);
            code.set(LE, 0, 0, 1);
            int skip = code.add(JZ, 0);
            int lastTest = code.bound - ahead;
            block(told.number, null);
            code.set(CONST, 1, 1, 1);
            code.add(MOVE, 0);
            code.load(told, first, last);
            code.set(ADD, 0, first + 1, last + 1);
            code.store(told, 0);
            code.add(JUMP, back);
            code.land(skip);
            long moreRounds = (long) last - first;
            code.spend(moreRounds * (code.bound - ahead) + lastTest);
        }
    }

    /** Reads a whole program. */
    private static final class Declarations {
        final Program program;
        private final Reader reader;
        private final int room;
        private final Constants constants;
        private final Statements statements;

        Declarations(Reader reader, int room) {
            Program made = new Program();
            Constants shared = new Constants(reader, made);
            this.reader = reader;
            this.room = room;
            program = made;
            constants = shared;
            statements = new Statements(reader, made, shared);
        }

        /** Makes the program that is on the tape, or fails. */
        void readProgram() {
            program.clear();
            statements.clear();
            reader.begin();
            for (int n = 0; n < MANY && reader.token != K_CYCLE; n++) {
                switch (reader.token) {
                    case K_CONST:
                        constant();
                        break;
                    case K_TYPE:
                        type();
                        break;
                    case K_IN:
                        port(IS_IN);
                        break;
                    case K_OUT:
                        port(IS_OUT);
                        break;
                    case K_STATE:
                        port(IS_STATE);
                        break;
                    case K_FUN:
                        function();
                        break;
                    default:
                        reader.fail(BAD_TOKEN, reader.place);
                }
            }
            readCycle();
        }

        private void readCycle() {
            reader.expect(K_CYCLE);
            program.start = program.code.size;
            statements.block(program.told, null);
            program.code.add(HALT, 0);
            program.bound = program.code.bound;
            program.code.endUnit();
            if (reader.token != END) {
                reader.fail(BAD_TOKEN, reader.place);
            }
            program.placeLocals();
            if (program.code.size > MOST_CODE || program.cells > room || program.bound > 100000) {
                reader.fail(TOO_LARGE, reader.place);
            }
        }

        private void constant() {
            reader.next();
            Symbol told = program.tell(IS_CONST, false, reader);
            reader.expect('=');
            told.value = constants.read(Constants.ANY);
            told.setType(constants.type, told.value, told.value);
            reader.expect(';');
            told.visible = true;
        }

        private void type() {
            reader.next();
            Symbol told = program.tell(IS_TYPE, false, reader);
            told.visible = true;
            told.length = 0;
            int type = ENUM + told.number;
            reader.expect('=');
            boolean more = true;
            for (int n = 0; n < MANY && more; n++) {
                Symbol member = program.tell(IS_MEMBER, told.length >= 64, reader);
                member.value = told.length;
                member.setType(type, member.value, member.value);
                member.visible = true;
                told.setType(type, 0, member.value);
                told.length++;
                more = reader.token == ',';
                if (more) {
                    reader.next();
                }
            }
            reader.expect(';');
        }

        /** in, out, state. */
        private void port(int kind) {
            reader.next();
            Symbol told = program.tell(kind, false, reader);
            constants.readLength(told);
            reader.expect(':');
            constants.readType(told);
            told.cell = program.cells;
            program.cells += told.length;
            if (kind == IS_IN) {
                program.ins += told.length;
            } else {
                reader.expect('=');
                told.value = constants.readFor(told);
            }
            if (kind == IS_OUT) {
                program.outs += told.length;
            }
            reader.expect(';');
            told.visible = true;
        }

        private void function() {
            reader.next();
            Symbol fun = program.tell(IS_FUN, false, reader);
            fun.cell = program.code.size;
            fun.length = 0;
            statements.owner = fun.number;
            reader.open('(');
            boolean more = reader.token != ')';
            for (int n = 0; n < MANY && more; n++) {
                parameter(fun);
                more = reader.token == ',';
                if (more) {
                    reader.next();
                }
            }
            reader.close(')');
            if (reader.token == ':') {
                reader.next();
                constants.readType(fun);
            }
            statements.block(fun.number, fun.type == NOTHING ? null : fun);
            program.code.add(RET, 0);
            fun.bound = program.code.bound;
            fun.level = 1 + program.code.deepest;
            program.code.endUnit();
            fun.visible = true;
            statements.owner = NONE;
        }

        private void parameter(Symbol fun) {
            Symbol told = program.tell(IS_PARAMETER, fun.length >= 8, reader);
            reader.expect(':');
            constants.readType(told);
            statements.place(told);
            told.visible = true;
            fun.length++;
        }
    }

    /** A copy's segment, its A, B and its places to come back to. */
    private static final class Copy {
        static final int GOES = 0;
        static final int HALTS = 1;
        static final int TRAPS = 2;

        long a;
        long b;
        int next;
        int depth;
        /** What stands for 1. */
        private final long one;
        private final long[] cells;
        private final int[] back = new int[MOST_CALLS];

        Copy(int many, long one) {
            cells = new long[many];
            this.one = one;
        }

        void clear(int many) {
            a = 0;
            b = 0;
            for (int k = 0; k < many && k < cells.length; k++) {
                cells[k] = 0;
            }
        }

        void begin(int start) {
            a = 0;
            b = 0;
            next = start;
            depth = 0;
        }

        void takeFrom(Copy other, int many) {
            a = other.a;
            b = other.b;
            next = other.next;
            depth = other.depth;
            System.arraycopy(other.back, 0, back, 0, back.length);
            System.arraycopy(other.cells, 0, cells, 0, Math.max(0, Math.min(many, cells.length)));
        }

        long read(int k) {
            return k >= 0 && k < cells.length ? cells[k] : 0;
        }

        private void write(int k, long v) {
            if (k >= 0 && k < cells.length) {
                cells[k] = v;
            }
        }

        /** Sets a cell to a number, as this copy holds it. */
        void hold(int k, long number) {
            write(k, number * one);
        }

        void turn(int where, int bit) {
            long turned = 1L << bit;
            if (where == -1) {
                a ^= turned;
            } else if (where == -2) {
                b ^= turned;
            } else {
                write(where, read(where) ^ turned);
            }
        }

        /** Does the INSTRUCTION that comes next: GOES, HALTS or TRAPS. */
        int step(Code code) {
            int i = next;
            if (!code.has(i)) {
                return TRAPS;
            }
            next = i + 1;
            int first = code.firsts[i];
            int op = code.ops[i];
            switch (op) {
                case CONST:
                    a = first * one;
                    return GOES;
                case LOAD:
                    a = read(first);
                    return GOES;
                case STORE:
                    write(first, a);
                    return GOES;
                case MOVE:
                    b = a;
                    return GOES;
                case LOADX:
                    return loadElement(first, code.seconds[i]);
                case STOREX:
                    return storeElement(first, code.seconds[i]);
                case LOW:
                    a = Math.max(a, first * one);
                    return GOES;
                case HIGH:
                    a = Math.min(a, first * one);
                    return GOES;
                default:
                    return op >= JUMP ? go(op, first) : work(op);
            }
        }

        /** The INDEX that a number is, from 0 to many - 1, or NONE. */
        private int indexOf(long number, int many) {
            if (one == 0 || number % one != 0) {
                return NONE;
            }
            long index = number / one;
            return index < 0 || index >= many ? NONE : (int) index;
        }

        private int loadElement(int first, int many) {
            int index = indexOf(a, many);
            if (index < 0) {
                return TRAPS;
            }
            a = read(first + index);
            return GOES;
        }

        private int storeElement(int first, int many) {
            int index = indexOf(b, many);
            if (index < 0) {
                return TRAPS;
            }
            write(first + index, a);
            return GOES;
        }

        private int go(int op, int first) {
            switch (op) {
                case JUMP:
                    next = first;
                    return GOES;
                case JZ:
                    next = a == 0 ? first : next;
                    return GOES;
                case JNZ:
                    next = a != 0 ? first : next;
                    return GOES;
                case CALL:
                    return callTo(first);
                case RET:
                    return comeBack();
                case HALT:
                    return HALTS;
                default:
                    return a == 0 ? TRAPS : GOES;
            }
        }

        private int callTo(int first) {
            if (depth < 0 || depth >= back.length) {
                return TRAPS;
            }
            back[depth] = next;
            depth++;
            next = first;
            return GOES;
        }

        private int comeBack() {
            if (depth < 1 || depth > back.length) {
                return TRAPS;
            }
            depth--;
            next = back[depth];
            return GOES;
        }

        private int work(int op) {
            switch (op) {
                case ADD:
                    a = a + b;
                    return GOES;
                case SUB:
                    a = a - b;
                    return GOES;
                case MUL:
                    return multiply();
                case DIV:
                case REM:
                    return divide(op == DIV);
                case MIN:
                    a = Math.min(a, b);
                    return GOES;
                case MAX:
                    a = Math.max(a, b);
                    return GOES;
                case NEG:
                    a = -a;
                    return GOES;
                case ABS:
                    a = a < 0 ? -a : a;
                    return GOES;
                default:
                    a = isTrue(op) ? one : 0;
                    return GOES;
            }
        }

        private int multiply() {
            long product = a * b;
            if (one == 0 || product % one != 0) {
                return TRAPS;
            }
            a = product / one;
            return GOES;
        }

        private int divide(boolean whole) {
            if (b == 0) {
                return TRAPS;
            }
            a = whole ? one * (a / b) : a % b;
            return GOES;
        }

        private boolean isTrue(int op) {
            switch (op) {
                case LT:
                    return a < b;
                case LE:
                    return a <= b;
                case GT:
                    return a > b;
                case GE:
                    return a >= b;
                case EQ:
                    return a == b;
                case NE:
                    return a != b;
                default:
                    return a == 0;
            }
        }
    }

    /** Both copies on their way through a CYCLE, or between two. */
    private static final class Run {
        /** 0 between CYCLES, 1 the first copy runs, 2 the second. */
        int running;
        /** STEPS that the CYCLE has done. */
        int done;
        /** How the latest CYCLE stands. */
        int outcome;
        private int doneByFirst;
        private final Copy first;
        private final Copy second;

        Run(int cells) {
            first = new Copy(cells, 1);
            second = new Copy(cells, CODING);
        }

        Copy of(int copy) {
            return copy == 0 ? first : second;
        }

        void clear(int cells) {
            running = 0;
            done = 0;
            doneByFirst = 0;
            outcome = GOES_ON;
            first.clear(cells);
            second.clear(cells);
        }

        void takeFrom(Run other, int cells) {
            running = other.running;
            done = other.done;
            doneByFirst = other.doneByFirst;
            outcome = other.outcome;
            first.takeFrom(other.first, cells);
            second.takeFrom(other.second, cells);
        }

        void hold(int k, int number) {
            first.hold(k, number);
            second.hold(k, number);
        }

        void begin(int start) {
            running = 1;
            done = 0;
            doneByFirst = 0;
            outcome = GOES_ON;
            first.begin(start);
        }

        void step(Program program) {
            int came = of(running - 1).step(program.code);
            done++;
            if (came == Copy.TRAPS) {
                end(TRAPPED);
            } else if (came == Copy.GOES) {
                if (done - doneByFirst >= program.bound) {
                    end(OVERRUN);
                }
            } else if (running == 1) {
                running = 2;
                doneByFirst = done;
                second.begin(program.start);
            } else {
                end(agrees(program) ? EMITTED : DISAGREED);
            }
        }

        private void end(int how) {
            outcome = how;
            running = 0;
            done = 0;
        }

        /** THE GATE. */
        private boolean agrees(Program program) {
            for (int i = 0; i < program.told; i++) {
                Symbol out = program.at(i);
                if (out != null && out.kind == IS_OUT && !agreesAbout(out)) {
                    return false;
                }
            }
            return true;
        }

        private boolean agreesAbout(Symbol out) {
            for (int k = out.cell; k < out.cell + out.length; k++) {
                long number = first.read(k);
                if (number < out.low || number > out.high || second.read(k) != CODING * number) {
                    return false;
                }
            }
            return true;
        }

        void finish(Program program) {
            for (int n = 0; n < MANY && running != 0; n++) {
                step(program);
            }
        }
    }

    /** The machine: its CYCLES, what is given to them and what they have put out. */
    private static final class Machine {
        final Run run;
        Program program;
        boolean loaded;
        int latched;
        private int emitted;
        /** What is given for in, at the numbers of its cells. */
        private final int[] given;
        /**
         * The outs of the latest CYCLES, one CYCLE behind the other, from its number modulo KEPT_CYCLES on. All cells
         * may be outs, and the row is long enough for that, as one for each program would soon fill the room.
         */
        private final int[] kept;
        /** Four numbers for each FLIP: copy, where, bit, STEP. */
        private final int[] flips = new int[4 * MOST_FLIPS];
        private int planned;
        private int flipped;
        /** For probe: a CYCLE that is tried, and how it stood ahead of the STEP. */
        private final Run trial;
        private final Run mark;
        private final int[] expected;

        Machine(int cells, Program program) {
            run = new Run(cells);
            trial = new Run(cells);
            mark = new Run(cells);
            given = new int[cells];
            expected = new int[cells];
            kept = new int[KEPT_CYCLES * cells];
            this.program = program;
        }

        void load(Program newProgram) {
            program = newProgram;
            loaded = true;
            for (int i = 0; i < program.told; i++) {
                Symbol in = program.at(i);
                if (in != null && in.kind == IS_IN) {
                    int value = in.low <= 0 && in.high >= 0 ? 0 : in.low;
                    for (int k = in.cell; k < in.cell + in.length && k < given.length; k++) {
                        given[k] = value;
                    }
                }
            }
            restart();
        }

        void restart() {
            run.clear(program.cells);
            for (int i = 0; i < program.told; i++) {
                Symbol told = program.at(i);
                if (told != null && (told.kind == IS_OUT || told.kind == IS_STATE)) {
                    for (int k = told.cell; k < told.cell + told.length; k++) {
                        run.hold(k, told.value);
                    }
                }
            }
            latched = 0;
            emitted = 0;
            planned = 0;
            flipped = 0;
        }

        boolean give(int k, int v) {
            Symbol in = program.portOf(IS_IN, k);
            int at = program.cellOf(IS_IN, k);
            if (in == null || at < 0 || at >= given.length || v < in.low || v > in.high || run.running != 0) {
                return false;
            }
            given[at] = v;
            return true;
        }

        /** A copy's cell, its A (-1) or its B (-2), of those that the program has. */
        boolean hasPlace(int copy, int where) {
            return loaded && copy >= 0 && copy <= 1 && where >= -2 && where < program.cells;
        }

        boolean plan(int copy, int where, int bit, int step) {
            if (bit < 0 || bit >= BITS || step < run.done || latched != 0 || planned >= MOST_FLIPS) {
                return false;
            }
            flips[4 * planned] = copy;
            flips[4 * planned + 1] = where;
            flips[4 * planned + 2] = bit;
            flips[4 * planned + 3] = step;
            planned++;
            return true;
        }

        /** Up to so many STEPS of one CYCLE, that has begun or begins now: how many. */
        int go(int most) {
            if (latched != 0) {
                return 0;
            }
            if (run.running == 0) {
                begin(run);
            }
            int did = 0;
            for (; did < most && run.running != 0; did++) {
                turnPlanned();
                run.step(program);
            }
            if (run.running == 0) {
                endCycle();
            }
            return did;
        }

        private void begin(Run beginning) {
            for (int i = 0; i < program.told; i++) {
                Symbol in = program.at(i);
                if (in != null && in.kind == IS_IN) {
                    for (int k = in.cell; k < in.cell + in.length && k < given.length; k++) {
                        beginning.hold(k, given[k]);
                    }
                }
            }
            beginning.begin(program.start);
        }

        private void turnPlanned() {
            for (int n = 0; n < planned && n < MOST_FLIPS; n++) {
                if (flips[4 * n + 3] == run.done) {
                    run.of(flips[4 * n]).turn(flips[4 * n + 1], flips[4 * n + 2]);
                    flipped++;
                }
            }
        }

        private void endCycle() {
            planned = 0;
            if (run.outcome != EMITTED) {
                latched = run.outcome;
                return;
            }
            emitted++;
            copyOuts(run, kept, emitted % KEPT_CYCLES * program.outs);
        }

        /** The outs of a run that is EMITTED, into a row. */
        private void copyOuts(Run from, int[] row, int start) {
            int at = start;
            for (int i = 0; i < program.told; i++) {
                Symbol out = program.at(i);
                if (out != null && out.kind == IS_OUT) {
                    for (int k = out.cell; k < out.cell + out.length && at < row.length; k++) {
                        row[at] = (int) from.of(0).read(k);
                        at++;
                    }
                }
            }
        }

        int isPutOut(int k) {
            if (latched == 0 && emitted > 0) {
                return wasPutOut(0, k);
            }
            Symbol out = program.portOf(IS_OUT, k);
            return out == null ? 0 : out.value;
        }

        boolean keeps(int ahead) {
            return ahead >= 0 && ahead < KEPT_CYCLES && ahead < emitted;
        }

        int wasPutOut(int ahead, int k) {
            int at = Math.floorMod(emitted - ahead, KEPT_CYCLES) * program.outs + k;
            return at >= 0 && at < kept.length ? kept[at] : 0;
        }

        boolean canProbe() {
            return loaded && run.running == 0 && latched == 0 && planned == 0;
        }

        int tryBits(int copy, int where, int step, int what) {
            trial.takeFrom(run, program.cells);
            begin(trial);
            for (int n = 0; n < MANY && n < step && trial.running != 0; n++) {
                trial.step(program);
            }
            boolean reached = trial.running != 0;
            if (reached) {
                mark.takeFrom(trial, program.cells);
            }
            trial.finish(program);
            if (trial.outcome != EMITTED) {
                return NONE;
            }
            if (!reached) {
                return what == 0 ? BITS : 0;
            }
            copyOuts(trial, expected, 0);
            int many = 0;
            for (int bit = 0; bit < BITS; bit++) {
                trial.takeFrom(mark, program.cells);
                trial.of(copy).turn(where, bit);
                trial.finish(program);
                if (outcomeOfTrial() == what) {
                    many++;
                }
            }
            return many;
        }

        /** As probe counts it: 0 EMITTED as expected, 1 to 3 LATCHED, 4 EMITTED otherwise. */
        private int outcomeOfTrial() {
            if (trial.outcome != EMITTED) {
                return trial.outcome;
            }
            int at = 0;
            for (int i = 0; i < program.told; i++) {
                Symbol out = program.at(i);
                if (out != null && out.kind == IS_OUT) {
                    for (int k = out.cell; k < out.cell + out.length && at < expected.length; k++) {
                        if (trial.of(0).read(k) != expected[at]) {
                            return EMITTED;
                        }
                        at++;
                    }
                }
            }
            return 0;
        }

        int answer(int what) {
            switch (what) {
                case 8:
                    return emitted;
                case 9:
                    return run.done;
                case 10:
                    return run.running;
                case 11:
                    return latched;
                case 12:
                    return planned;
                case 13:
                    return flipped;
                default:
                    return NONE;
            }
        }
    }
}
