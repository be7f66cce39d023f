import java.util.Arrays;

/**
 * From a typed language down to bytes of a machine. Texts come in over a tape; a text is read as a
 * program or as blocks, judged, and run. All rows are made with the object and used again.
 */
public final class TypedDescent {
    private static final int TAPE = 6000;
    private static final int FED = 20;
    private static final int MOST_FUEL = 20000;
    private static final int PROGRAM = 1;
    private static final int BLOCKS = 2;
    private static final int ENDED = 0;
    private static final int FUEL = 1;
    private static final int OUT = 2;

    private final byte[] tape;
    private int taped;
    private final Text text;
    private final Kinds kinds;
    private final Memory memory;
    private final ProgramGrammar programGrammar;
    private final ProgramJudge programJudge;
    private final ProgramMachine programMachine;
    private final BlockGrammar blockGrammar;
    private final BlockJudge blockJudge;
    private final BlockCode blockCode;
    private final BlockMachine blockMachine;
    private int loaded;
    private int programKind;
    private boolean ran;
    private boolean ended;

    public TypedDescent() {
        tape = new byte[TAPE];
        text = new Text();
        kinds = new Kinds();
        memory = new Memory();
        ProgramCode programCode = new ProgramCode();
        programGrammar = new ProgramGrammar(text);
        programJudge = new ProgramJudge(text, kinds, programCode);
        programMachine = new ProgramMachine(programCode, memory);
        blockGrammar = new BlockGrammar(text);
        blockCode = new BlockCode();
        blockJudge = new BlockJudge(text, kinds, blockGrammar, blockCode);
        blockMachine = new BlockMachine(blockCode, memory);
    }

    public boolean feed(int a, int b, int c, int d, int e) {
        if (taped > TAPE - FED) {
            return false;
        }
        putWord(a);
        putWord(b);
        putWord(c);
        putWord(d);
        putWord(e);
        return true;
    }

    public int program(int n) {
        if (n < 0 || n > taped) {
            return -1;
        }
        takeText(n, false);
        programGrammar.read();
        if (!text.failed()) {
            programKind = programJudge.judge();
        }
        if (!text.failed()) {
            kinds.write(programKind);
            loaded = PROGRAM;
        }
        return text.fault();
    }

    public int blocks(int n) {
        if (n < 0 || n > taped) {
            return -1;
        }
        takeText(n, true);
        blockGrammar.read();
        if (!text.failed()) {
            blockJudge.judge();
        }
        if (!text.failed()) {
            blockCode.assemble();
            loaded = BLOCKS;
        }
        return text.fault();
    }

    public int place() {
        return text.faultPlace();
    }

    public int kind(int i) {
        return loaded == PROGRAM ? kinds.letter(i) : -1;
    }

    public int code(int address) {
        return loaded == BLOCKS ? blockCode.byteAt(address) : -1;
    }

    public int label(int k) {
        return loaded == BLOCKS ? blockCode.addressOf(k) : -1;
    }

    public int run(int fuel, int heap) {
        if (fuel < 0 || fuel > MOST_FUEL || heap < 0 || heap > Memory.WORDS || !canRun()) {
            return -1;
        }
        memory.clear(heap);
        int end = loaded == PROGRAM ? programMachine.start(fuel) : blockMachine.start(fuel);
        ran = true;
        ended = end == ENDED;
        return end;
    }

    public int value() {
        if (!ran || !ended) {
            return 0;
        }
        return loaded == PROGRAM ? programMachine.result() : blockMachine.registerOf(1);
    }

    public int count(int what) {
        switch (what) {
            case 0:
                return ran ? memory.made() : 0;
            case 1:
                return ran ? stepsDone() : 0;
            case 2:
                return ran && loaded == PROGRAM ? programMachine.met() : 0;
            case 3:
                return ran ? leapsDone() : 0;
            case 4:
                return loaded;
            case 5:
                return taped;
            case 6:
                return loaded == BLOCKS ? blockCode.size() : 0;
            default:
                return -1;
        }
    }

    public int register(int k) {
        return ran && loaded == BLOCKS ? blockMachine.registerOf(k) : 0;
    }

    public int heap(int k) {
        return ran && loaded == BLOCKS ? memory.word(k) : 0;
    }

    private void putWord(int word) {
        for (int shift = 24; shift >= 0 && taped < TAPE; shift -= 8) {
            tape[taped] = (byte) (word >>> shift);
            taped++;
        }
    }

    private void takeText(int n, boolean ofBlocks) {
        text.scan(tape, n, ofBlocks);
        taped = 0;
        loaded = 0;
        ran = false;
        ended = false;
    }

    private boolean canRun() {
        return loaded == BLOCKS || loaded == PROGRAM && programKind == kinds.number();
    }

    private int stepsDone() {
        return loaded == PROGRAM ? programMachine.calls() : blockMachine.steps();
    }

    private int leapsDone() {
        return loaded == PROGRAM ? programMachine.notLast() : blockMachine.leaps();
    }

    /** The tokens of a text, a reader's way through them, and the first fault that was found. */
    private static final class Text {
        static final int SYNTAX = 1;
        static final int ROOM = 2;

        static final int NONE = 0;
        static final int END = 1;
        static final int NAME = 2;
        static final int NUMBER = 3;
        static final int REGISTER = 4;
        static final int DOT = 10;
        static final int COLON = 11;
        static final int COMMA = 12;
        static final int SEMICOLON = 13;
        static final int LEFT_ROUND = 14;
        static final int RIGHT_ROUND = 15;
        static final int LEFT_SQUARE = 16;
        static final int RIGHT_SQUARE = 17;
        static final int LEFT_CURLY = 18;
        static final int RIGHT_CURLY = 19;
        static final int LESS = 20;
        static final int MORE = 21;
        static final int HASH = 22;
        static final int PLUS = 23;
        static final int MINUS = 24;
        static final int TIMES = 25;
        static final int EQUALS = 26;
        static final int QUERY = 27;
        static final int ARROW = 28;
        static final int INT = 40;
        static final int ALL = 41;
        static final int FUN = 42;
        static final int FIX = 43;
        static final int TYP = 44;
        static final int LET = 45;
        static final int IN = 46;
        static final int IF0 = 47;
        static final int BLOCK_INT = 60;
        static final int CODE = 61;
        static final int SOME = 62;
        static final int PACK = 63;
        static final int AS = 64;
        static final int MOV = 65;
        static final int ADD = 66;
        static final int SUB = 67;
        static final int MUL = 68;
        static final int LD = 69;
        static final int ST = 70;
        static final int MALLOC = 71;
        static final int BNZ = 72;
        static final int UNPACK = 73;
        static final int JMP = 74;
        static final int HALT = 75;

        /** One above the largest number of tokens that a grammar lets in. */
        static final int MOST = 1202;

        private static final String SIGNS = ".:,;()[]{}<>#+-*=?";
        private static final String PROGRAM_WORDS = "int all fun fix typ let in if0 ";
        private static final String BLOCK_WORDS =
            "int code some pack as mov add sub mul ld st malloc bnz unpack jmp halt ";
        private static final String REGISTER_WORDS =
            "r1 r2 r3 r4 r5 r6 r7 r8 r9 r10 r11 r12 r13 r14 r15 ";
        private static final int FIRST_SIGN = 10;
        private static final int FIRST_PROGRAM_WORD = 40;
        private static final int FIRST_BLOCK_WORD = 60;
        private static final int LONGEST_NAME = 10;
        private static final int SYMBOLS = 63;
        private static final long LARGEST = 2147483647L;

        private final int[] sorts = new int[MOST + 1];
        private final int[] places = new int[MOST + 1];
        private final int[] numbers = new int[MOST + 1];
        private final long[] names = new long[MOST + 1];
        private final long[] programWords = coded(PROGRAM_WORDS, 8);
        private final long[] blockWords = coded(BLOCK_WORDS, 16);
        private final long[] registerWords = coded(REGISTER_WORDS, 15);
        private byte[] bytes;
        private int length;
        private boolean ofBlocks;
        private int tokens;
        private int at;
        private int fault;
        private int faultPlace = -1;
        private int tokenLimit;
        private int openLimit;
        private int opened;
        private boolean full;

        void scan(byte[] source, int size, boolean blocks) {
            bytes = source;
            length = source == null ? 0 : Math.max(0, Math.min(size, source.length));
            ofBlocks = blocks;
            tokens = 0;
            int next = behindBlanks(0);
            for (int n = 0; n < MOST && next < length; n++) {
                next = behindBlanks(readToken(next));
            }
            addToken(END, length, 0, 0);
            fault = 0;
            faultPlace = -1;
        }

        private int charAt(int i) {
            return bytes != null && i >= 0 && i < length && i < bytes.length ? bytes[i] & 255 : -1;
        }

        private int behindBlanks(int from) {
            boolean comment = false;
            for (int i = from; i < length; i++) {
                int c = charAt(i);
                if (comment) {
                    comment = c != 10;
                } else if (c == '%') {
                    comment = true;
                } else if (c != 9 && c != 10 && c != 13 && c != 32) {
                    return i;
                }
            }
            return length;
        }

        private int readToken(int from) {
            int c = charAt(from);
            if (isLetter(c)) {
                return readName(from);
            }
            return isDigit(c) ? readNumber(from) : readSign(from);
        }

        private int readName(int from) {
            long name = 0;
            int i = from;
            for (; i < length && symbol(charAt(i)) > 0; i++) {
                name = i - from < LONGEST_NAME ? name * SYMBOLS + symbol(charAt(i)) : name;
            }
            if (i - from > LONGEST_NAME) {
                return readNone(from);
            }
            addName(from, name);
            return i;
        }

        private int readNumber(int from) {
            long number = 0;
            int i = from;
            for (; i < length && isDigit(charAt(i)); i++) {
                number = Math.min(number * 10 + (charAt(i) - '0'), LARGEST + 1);
            }
            if (number > LARGEST || isLetter(charAt(i))) {
                return readNone(from);
            }
            addToken(NUMBER, from, (int) number, 0);
            return i;
        }

        private int readSign(int from) {
            int c = charAt(from);
            if (c == '-' && charAt(from + 1) == '>') {
                addToken(ARROW, from, 0, 0);
                return from + 2;
            }
            int sign = SIGNS.indexOf((char) c);
            if (sign < 0) {
                return readNone(from);
            }
            addToken(FIRST_SIGN + sign, from, 0, 0);
            return from + 1;
        }

        /** What is no token ends the scan, as no reader goes on behind it. */
        private int readNone(int from) {
            addToken(NONE, from, 0, 0);
            return length;
        }

        private void addName(int from, long name) {
            int word = indexOf(name, ofBlocks ? blockWords : programWords);
            int register = ofBlocks ? indexOf(name, registerWords) : -1;
            if (word >= 0) {
                addToken((ofBlocks ? FIRST_BLOCK_WORD : FIRST_PROGRAM_WORD) + word, from, 0, 0);
            } else if (register >= 0) {
                addToken(REGISTER, from, register + 1, 0);
            } else {
                addToken(NAME, from, 0, name);
            }
        }

        private static int indexOf(long name, long[] words) {
            for (int i = 0; i < words.length; i++) {
                if (words[i] == name) {
                    return i;
                }
            }
            return -1;
        }

        /** The first n words of a text in which a blank ends each, as names are held. */
        private static long[] coded(String words, int n) {
            long[] coded = new long[n];
            int word = 0;
            for (int i = 0; i < words.length() && word < n; i++) {
                char c = words.charAt(i);
                if (c == ' ') {
                    word++;
                } else {
                    coded[word] = coded[word] * SYMBOLS + symbol(c);
                }
            }
            return coded;
        }

        /** 1 .. 62 for digits and letters, so that a name of ten of them is one long; else 0. */
        private static int symbol(int c) {
            if (c >= '0' && c <= '9') {
                return c - '0' + 1;
            }
            if (c >= 'A' && c <= 'Z') {
                return c - 'A' + 11;
            }
            return c >= 'a' && c <= 'z' ? c - 'a' + 37 : 0;
        }

        private static boolean isDigit(int c) {
            return c >= '0' && c <= '9';
        }

        private static boolean isLetter(int c) {
            return c >= 'A' && c <= 'Z' || c >= 'a' && c <= 'z';
        }

        private void addToken(int sort, int from, int number, long name) {
            if (tokens <= MOST) {
                sorts[tokens] = sort;
                places[tokens] = from;
                numbers[tokens] = number;
                names[tokens] = name;
                tokens++;
            }
        }

        /** Begins a way through the tokens that says where the text's rooms end. */
        void begin(int mostTokens, int mostOpen) {
            tokenLimit = mostTokens;
            openLimit = mostOpen;
            opened = 0;
            full = false;
            at = 0;
        }

        boolean failed() {
            return fault != 0;
        }

        int fault() {
            return fault;
        }

        int faultPlace() {
            return faultPlace;
        }

        /** Notes a fault at a token, if it is the first; 0 for the caller to hand on. */
        int fail(int number, int token) {
            if (fault == 0) {
                fault = number;
                faultPlace = token >= 0 && token < tokens ? places[token] : length;
            }
            return 0;
        }

        void forgive() {
            fault = 0;
            faultPlace = -1;
        }

        int at() {
            return at;
        }

        void move(int token) {
            at = Math.max(0, Math.min(token, tokens - 1));
        }

        void skip(int n) {
            move(at + n);
        }

        /** The sort of the token here; NONE behind a fault, so that all readers come to an end. */
        int sort() {
            return fault == 0 && at < tokens ? sorts[at] : NONE;
        }

        int numberAt(int token) {
            return token >= 0 && token < tokens ? numbers[token] : 0;
        }

        long nameAt(int token) {
            return token >= 0 && token < tokens ? names[token] : 0;
        }

        /** Says whether the token that is taken next is one too many. */
        void limit(boolean over) {
            full = over;
        }

        void syntax() {
            fail(SYNTAX, at);
        }

        void accept() {
            if (full || at >= tokenLimit) {
                fail(ROOM, at);
            }
            if (at < tokens - 1) {
                at++;
            }
        }

        boolean takes(int sort) {
            if (sort() != sort) {
                return false;
            }
            accept();
            return true;
        }

        void want(int sort) {
            if (sort() == sort) {
                accept();
            } else {
                syntax();
            }
        }

        void wantEnd() {
            if (sort() != END) {
                syntax();
            }
        }

        /** Takes the token here, which stays open till close(). */
        void open() {
            int token = at;
            accept();
            opened++;
            if (opened > openLimit) {
                fail(ROOM, token);
            }
        }

        boolean opens(int sort) {
            if (sort() != sort) {
                return false;
            }
            open();
            return true;
        }

        void wantOpen(int sort) {
            if (sort() == sort) {
                open();
            } else {
                syntax();
            }
        }

        void close() {
            opened--;
        }

        void wantClose(int sort) {
            want(sort);
            close();
        }
    }

    /**
     * Kinds, each made once, so that two kinds are one if their numbers are the same: names behind
     * all, some and code are counted from inside, registers stand in order. Beside them the names
     * of kinds that are told around the place where a reader is.
     */
    private static final class Kinds {
        static final int UNKNOWN = 1;
        static final int NUMBER = 1;
        static final int BOUND = 2;
        static final int FREE = 3;
        static final int ARROW = 4;
        static final int ALL = 5;
        static final int TUPLE = 6;
        static final int SOME = 7;
        static final int CODE = 8;

        private static final int CELLS = 240000;
        private static final int HEADS = 4096;
        private static final int STACK = 4096;
        private static final int LETTERS = 4096;
        private static final int FIRST = 2;
        private static final int HEAD = 1;
        private static final int PARTS = 2;
        private static final int REACH = 3;
        private static final int CHILDREN = 4;
        private static final int MANY_PARTS = 100000;
        private static final int DEEPEST = 100;

        private final int[] cells = new int[CELLS];
        private final int[] heads = new int[HEADS];
        private final int[] stack = new int[STACK];
        private final long[] names = new long[Text.MOST];
        private final byte[] letters = new byte[LETTERS];
        private int top;
        private int stacked;
        private int named;
        private int frees;
        private int lettered;
        private int number;

        void clear() {
            Arrays.fill(heads, 0);
            top = FIRST;
            stacked = 0;
            number = make(NUMBER, 0, 0);
            forgetNames();
        }

        private int cell(int kind, int which) {
            int at = kind + which;
            return kind >= FIRST && kind < top && at >= 0 && at < CELLS ? cells[at] : 0;
        }

        int tag(int kind) {
            return cell(kind, HEAD) & 15;
        }

        int size(int kind) {
            return cell(kind, HEAD) >>> 4 & 15;
        }

        /** Of a code, how many vars; of a name, which one. */
        int extra(int kind) {
            return cell(kind, HEAD) >>> 8;
        }

        int parts(int kind) {
            return cell(kind, PARTS);
        }

        /** Part i, for an i that is below the size. */
        int child(int kind, int i) {
            return cell(kind, CHILDREN + i) >> 4;
        }

        /** Of a field 1 for ?, of a code's part its register. */
        int mark(int kind, int i) {
            return cell(kind, CHILDREN + i) & 15;
        }

        /** How many names are told ahead of the parts of such a kind. */
        private static int binders(int tag, int extra) {
            if (tag == CODE) {
                return extra;
            }
            return tag == ALL || tag == SOME ? 1 : 0;
        }

        int number() {
            return number;
        }

        void push(int child, int mark) {
            if (stacked < STACK) {
                stack[stacked] = child << 4 | mark & 15;
                stacked++;
            }
        }

        /** Puts the last n that were pushed in the order of their marks. */
        void order(int n) {
            int from = Math.max(0, stacked - n);
            for (int i = from + 1; i < stacked; i++) {
                for (int j = i; j > from && (stack[j] & 15) < (stack[j - 1] & 15); j--) {
                    int link = stack[j];
                    stack[j] = stack[j - 1];
                    stack[j - 1] = link;
                }
            }
        }

        /** The kind of this tag whose parts are the last n that were pushed. */
        int make(int tag, int extra, int n) {
            int head = extra << 8 | n << 4 | tag;
            int from = Math.max(0, stacked - n);
            int hash = hash(head, from);
            int kind = find(heads[hash], head, from);
            if (kind == 0) {
                kind = store(hash, head, from);
                measure(kind, tag == BOUND ? extra + 1 : 0, from, binders(tag, extra));
            }
            stacked = from;
            return kind;
        }

        private int hash(int head, int from) {
            int hash = head;
            for (int i = from; i < stacked; i++) {
                hash = hash * 31 + stack[i];
            }
            hash ^= hash >>> 16;
            return (hash ^ hash >>> 7) & (HEADS - 1);
        }

        private int find(int newest, int head, int from) {
            int kind = newest;
            for (int n = 0; n < CELLS && kind >= FIRST && kind < CELLS - CHILDREN; n++) {
                boolean same = cells[kind + HEAD] == head;
                int at = kind + CHILDREN;
                for (int i = from; i < stacked && same && at < CELLS; i++, at++) {
                    same = cells[at] == stack[i];
                }
                if (same) {
                    return kind;
                }
                kind = cells[kind];
            }
            return 0;
        }

        /** The cells hold more than any text can ask for; beyond them nothing more is asked. */
        private int store(int hash, int head, int from) {
            int kind = top;
            int behind = kind + CHILDREN + stacked - from;
            if (behind >= CELLS) {
                return UNKNOWN;
            }
            cells[kind] = heads[hash];
            cells[kind + HEAD] = head;
            System.arraycopy(stack, from, cells, kind + CHILDREN, stacked - from);
            heads[hash] = kind;
            top = behind;
            return kind;
        }

        private void measure(int kind, int ownReach, int from, int binders) {
            if (kind < FIRST || kind >= CELLS - CHILDREN) {
                return;
            }
            int parts = 1;
            int reach = ownReach;
            for (int i = from; i < stacked; i++) {
                int child = stack[i] >> 4;
                parts = Math.min(parts + cell(child, PARTS), MANY_PARTS);
                reach = Math.max(reach, cell(child, REACH) - binders);
            }
            cells[kind + PARTS] = parts;
            cells[kind + REACH] = reach;
        }

        int arrow(int from, int to) {
            push(from, 0);
            push(to, 0);
            return make(ARROW, 0, 2);
        }

        /** all or some, ahead of a kind whose innermost name it tells. */
        int binder(int tag, int behind) {
            push(behind, 0);
            return make(tag, 0, 1);
        }

        /** all, ahead of a kind in which a free name is what it tells. */
        int all(int kind, int free) {
            return binder(ALL, closed(kind, free, 0, 0));
        }

        private int closed(int kind, int free, int index, int depth) {
            if (depth > DEEPEST) {
                return kind;
            }
            int tag = tag(kind);
            if (tag == FREE) {
                return extra(kind) == free ? make(BOUND, index, 0) : kind;
            }
            int inner = index + binders(tag, extra(kind));
            int n = size(kind);
            for (int i = 0; i < n; i++) {
                push(closed(child(kind, i), free, inner, depth + 1), mark(kind, i));
            }
            return n == 0 ? kind : make(tag, extra(kind), n);
        }

        /** What an all, a some or a code becomes with a kind in place of its first name. */
        int apply(int kind, int argument) {
            if (tag(kind) != CODE) {
                return replaced(child(kind, 0), 0, argument, 0);
            }
            int left = Math.max(0, extra(kind) - 1);
            int n = size(kind);
            for (int i = 0; i < n; i++) {
                push(replaced(child(kind, i), left, argument, 0), mark(kind, i));
            }
            return make(CODE, left, n);
        }

        /** A kind with another one, in which no names are left open, in place of a bound name. */
        private int replaced(int kind, int index, int argument, int depth) {
            if (cell(kind, REACH) <= index || depth > DEEPEST) {
                return kind;
            }
            if (tag(kind) == BOUND) {
                return extra(kind) == index ? argument : kind;
            }
            int inner = index + binders(tag(kind), extra(kind));
            int n = size(kind);
            for (int i = 0; i < n; i++) {
                push(replaced(child(kind, i), inner, argument, depth + 1), mark(kind, i));
            }
            return make(tag(kind), extra(kind), n);
        }

        /** The < > with field k there. */
        int withField(int kind, int k) {
            int n = size(kind);
            for (int i = 0; i < n; i++) {
                push(child(kind, i), i == k ? 0 : mark(kind, i));
            }
            return make(TUPLE, 0, n);
        }

        boolean fits(int kind, int wanted) {
            if (kind == UNKNOWN || kind == wanted) {
                return true;
            }
            int n = size(kind);
            if (tag(kind) != TUPLE || tag(wanted) != TUPLE || n != size(wanted)) {
                return false;
            }
            for (int i = 0; i < n; i++) {
                if (child(kind, i) != child(wanted, i) || mark(kind, i) > mark(wanted, i)) {
                    return false;
                }
            }
            return true;
        }

        void forgetNames() {
            named = 0;
            frees = 0;
        }

        /** A name that is told within a kind that is being read. */
        void bind(long name) {
            if (named < names.length) {
                names[named] = name;
                named++;
            }
        }

        /** A name that is told outside of all kinds; the number of it. */
        int bindFree(long name) {
            bind(name);
            frees = named;
            return named - 1;
        }

        void unbind(int n) {
            named = Math.max(0, named - n);
            frees = Math.min(frees, named);
        }

        int free(int index) {
            return make(FREE, index, 0);
        }

        /** Whether the name is among the n that were bound last. */
        boolean isAmongLast(long name, int n) {
            for (int i = Math.max(0, named - n); i < named; i++) {
                if (names[i] == name) {
                    return true;
                }
            }
            return false;
        }

        boolean isNamed(long name) {
            return isAmongLast(name, named);
        }

        /** The kind that a name means here; 0 if it is not there. */
        int meaning(long name) {
            for (int i = named - 1; i >= 0; i--) {
                if (names[i] == name) {
                    return i < frees ? make(FREE, i, 0) : make(BOUND, named - 1 - i, 0);
                }
            }
            return 0;
        }

        int letter(int i) {
            return i >= 0 && i < lettered ? letters[i] : -1;
        }

        void write(int kind) {
            lettered = 0;
            writeKind(kind, 0, 0);
        }

        private void writeKind(int kind, int around, int depth) {
            if (depth > DEEPEST) {
                return;
            }
            switch (tag(kind)) {
                case NUMBER:
                    put("int");
                    break;
                case BOUND:
                    putName(around - 1 - extra(kind));
                    break;
                case ARROW:
                    writeLeft(child(kind, 0), around, depth + 1);
                    put("->");
                    writeKind(child(kind, 1), around, depth + 1);
                    break;
                case ALL:
                    put("all ");
                    putName(around);
                    put(".");
                    writeKind(child(kind, 0), around + 1, depth + 1);
                    break;
                default:
                    writeTuple(kind, around, depth + 1);
                    break;
            }
        }

        private void writeLeft(int kind, int around, int depth) {
            boolean bare = tag(kind) != ARROW && tag(kind) != ALL;
            put(bare ? "" : "(");
            writeKind(kind, around, depth);
            put(bare ? "" : ")");
        }

        private void writeTuple(int kind, int around, int depth) {
            put("<");
            for (int i = 0; i < size(kind); i++) {
                put(i == 0 ? "" : ",");
                writeKind(child(kind, i), around, depth);
            }
            put(">");
        }

        private void putName(int level) {
            putLetter('a' + Math.floorMod(level, 26));
            int round = Math.floorDiv(level, 26);
            if (round > 0) {
                putLetter('0' + round);
            }
        }

        private void put(String word) {
            for (int i = 0; i < word.length(); i++) {
                putLetter(word.charAt(i));
            }
        }

        private void putLetter(int c) {
            if (lettered < LETTERS) {
                letters[lettered] = (byte) c;
                lettered++;
            }
        }
    }

    /** The words that a run makes, row after row. */
    private static final class Memory {
        static final int WORDS = 20000;

        private final int[] words = new int[WORDS];
        private int made;
        private int room;

        void clear(int most) {
            made = 0;
            room = Math.max(0, Math.min(most, WORDS));
        }

        int made() {
            return made;
        }

        /** The place of a new row of zeros; -1 if there is no room for it. */
        int row(int length) {
            if (length < 0 || length > room - made) {
                return -1;
            }
            int from = made;
            made += length;
            for (int i = from; i < made; i++) {
                words[i] = 0;
            }
            return from;
        }

        int word(int at) {
            return at >= 0 && at < made ? words[at] : 0;
        }

        void put(int at, int word) {
            if (at >= 0 && at < made) {
                words[at] = word;
            }
        }
    }

    /** SYNTAX and ROOM of programs. */
    private static final class ProgramGrammar {
        private static final int MOST_TOKENS = 400;
        private static final int MOST_OPEN = 20;
        private static final int MOST_PARTS = 8;

        private final Text text;

        ProgramGrammar(Text text) {
            this.text = text;
        }

        void read() {
            text.begin(MOST_TOKENS, MOST_OPEN);
            expression();
            text.wantEnd();
        }

        private void expression() {
            switch (text.sort()) {
                case Text.FUN:
                    function();
                    break;
                case Text.FIX:
                    fixed();
                    break;
                case Text.TYP:
                    text.open();
                    text.want(Text.NAME);
                    text.want(Text.DOT);
                    expression();
                    text.close();
                    break;
                case Text.LET:
                    let();
                    break;
                default:
                    sum();
                    break;
            }
        }

        private void function() {
            text.open();
            text.want(Text.NAME);
            text.want(Text.COLON);
            readKind();
            text.want(Text.DOT);
            expression();
            text.close();
        }

        private void fixed() {
            text.open();
            text.want(Text.NAME);
            text.wantOpen(Text.LEFT_ROUND);
            text.want(Text.NAME);
            text.want(Text.COLON);
            readKind();
            text.wantClose(Text.RIGHT_ROUND);
            text.want(Text.COLON);
            readKind();
            text.want(Text.DOT);
            expression();
            text.close();
        }

        private void let() {
            text.open();
            text.want(Text.NAME);
            text.want(Text.EQUALS);
            expression();
            text.want(Text.IN);
            expression();
            text.close();
        }

        private void sum() {
            product();
            for (int i = 0; i < Text.MOST && (text.takes(Text.PLUS) || text.takes(Text.MINUS)); i++) {
                product();
            }
        }

        private void product() {
            call();
            for (int i = 0; i < Text.MOST && text.takes(Text.TIMES); i++) {
                call();
            }
        }

        private void call() {
            first();
            for (int i = 0; i < Text.MOST; i++) {
                if (text.opens(Text.LEFT_SQUARE)) {
                    readKind();
                    text.wantClose(Text.RIGHT_SQUARE);
                } else if (startsFirst(text.sort())) {
                    first();
                } else {
                    break;
                }
            }
        }

        static boolean startsFirst(int sort) {
            return sort == Text.NUMBER || sort == Text.NAME || sort == Text.LEFT_ROUND
                || sort == Text.LESS || sort == Text.HASH || sort == Text.IF0;
        }

        private void first() {
            switch (text.sort()) {
                case Text.NUMBER:
                case Text.NAME:
                    text.accept();
                    break;
                case Text.LEFT_ROUND:
                    text.open();
                    expression();
                    text.wantClose(Text.RIGHT_ROUND);
                    break;
                case Text.LESS:
                    readParts(false);
                    break;
                case Text.HASH:
                    text.open();
                    partNumber();
                    first();
                    text.close();
                    break;
                case Text.IF0:
                    choice();
                    break;
                default:
                    text.syntax();
                    break;
            }
        }

        private void readParts(boolean ofKinds) {
            text.open();
            if (text.sort() != Text.MORE) {
                for (int part = 1; part <= MOST_PARTS + 1; part++) {
                    text.limit(part > MOST_PARTS);
                    if (ofKinds) {
                        readKind();
                    } else {
                        expression();
                    }
                    if (!text.takes(Text.COMMA)) {
                        break;
                    }
                }
            }
            text.wantClose(Text.MORE);
        }

        private void partNumber() {
            int number = text.numberAt(text.at());
            if (text.sort() == Text.NUMBER && number == 0) {
                text.syntax();
            }
            text.limit(number > MOST_PARTS);
            text.want(Text.NUMBER);
        }

        private void choice() {
            text.accept();
            text.wantOpen(Text.LEFT_ROUND);
            expression();
            text.want(Text.COMMA);
            expression();
            text.want(Text.COMMA);
            expression();
            text.wantClose(Text.RIGHT_ROUND);
        }

        private void readKind() {
            readUnit();
            if (text.opens(Text.ARROW)) {
                readKind();
                text.close();
            }
        }

        private void readUnit() {
            switch (text.sort()) {
                case Text.INT:
                case Text.NAME:
                    text.accept();
                    break;
                case Text.ALL:
                    text.open();
                    text.want(Text.NAME);
                    text.want(Text.DOT);
                    readKind();
                    text.close();
                    break;
                case Text.LESS:
                    readParts(true);
                    break;
                case Text.LEFT_ROUND:
                    text.open();
                    readKind();
                    text.wantClose(Text.RIGHT_ROUND);
                    break;
                default:
                    text.syntax();
                    break;
            }
        }
    }

    /**
     * Judges a program without SYNTAX and ROOM, from the left, and stops at the first fault: as
     * what has a fault in it is asked nothing more, that is the leftmost one. Makes code on its way.
     */
    private static final class ProgramJudge {
        private static final int NAME = 3;
        private static final int KIND = 4;
        private static final int LARGE = 5;
        private static final int MOST_PARTS = 80;
        private static final int MOST_FIELDS = 8;

        private final Text text;
        private final Kinds kinds;
        private final ProgramCode out;
        private final long[] names = new long[ProgramCode.VARIABLES];
        private final int[] nameKinds = new int[ProgramCode.VARIABLES];
        private int named;

        ProgramJudge(Text text, Kinds kinds, ProgramCode out) {
            this.text = text;
            this.kinds = kinds;
            this.out = out;
        }

        /** The kind of the program; 0 if it has a fault. */
        int judge() {
            text.move(0);
            kinds.clear();
            out.clear();
            named = 0;
            int kind = expression();
            if (kind != 0) {
                out.finish();
            }
            return kind;
        }

        private void declare(int nameToken, int kind) {
            if (named < ProgramCode.VARIABLES) {
                names[named] = text.nameAt(nameToken);
                nameKinds[named] = kind;
                named++;
            }
        }

        private void undeclare(int n) {
            named = Math.max(0, named - n);
        }

        /** The kind of an e that begins at a token, if it is not too large; else 0. */
        private int settled(int kind, int start) {
            return kinds.parts(kind) > MOST_PARTS ? text.fail(LARGE, start) : kind;
        }

        private int expression() {
            switch (text.sort()) {
                case Text.FUN:
                    return function();
                case Text.FIX:
                    return fixed();
                case Text.TYP:
                    return typed();
                case Text.LET:
                    return let();
                default:
                    return chain(true);
            }
        }

        private int function() {
            int start = text.at();
            text.skip(3);
            int from = readKind();
            if (from == 0) {
                return 0;
            }
            text.skip(1);
            int base = out.top();
            int closure = out.begin(ProgramCode.NO_SLOT, named);
            declare(start + 1, from);
            int to = expression();
            undeclare(1);
            if (to == 0) {
                return 0;
            }
            out.end(closure, base);
            return settled(kinds.arrow(from, to), start);
        }

        private int fixed() {
            int start = text.at();
            text.skip(5);
            int from = readKind();
            text.skip(2);
            int to = from == 0 ? 0 : readKind();
            if (to == 0) {
                return 0;
            }
            text.skip(1);
            int base = out.top();
            int closure = out.begin(named, named + 1);
            int kind = kinds.arrow(from, to);
            declare(start + 1, kind);
            declare(start + 3, from);
            int bodyStart = text.at();
            int body = expression();
            undeclare(2);
            if (body == 0) {
                return 0;
            }
            if (body != to) {
                return text.fail(KIND, bodyStart);
            }
            out.end(closure, base);
            return settled(kind, start);
        }

        private int typed() {
            int start = text.at();
            int base = out.top();
            int closure = out.begin(ProgramCode.NO_SLOT, ProgramCode.NO_SLOT);
            int free = kinds.bindFree(text.nameAt(start + 1));
            text.skip(3);
            int behind = expression();
            kinds.unbind(1);
            if (behind == 0) {
                return 0;
            }
            out.end(closure, base);
            return settled(kinds.all(behind, free), start);
        }

        private int let() {
            int start = text.at();
            int base = out.top();
            text.skip(3);
            int first = expression();
            if (first == 0) {
                return 0;
            }
            out.assign(named, base);
            text.skip(1);
            declare(start + 1, first);
            int kind = expression();
            undeclare(1);
            out.settle(base);
            return kind;
        }

        /** A sum, or one of the products in it. */
        private int chain(boolean sums) {
            int start = text.at();
            int base = out.top();
            int kind = sums ? chain(false) : call();
            for (int i = 0; i < Text.MOST && kind != 0 && operation(sums) != 0; i++) {
                int operation = operation(sums);
                if (kind != kinds.number()) {
                    return text.fail(KIND, start);
                }
                text.skip(1);
                int left = out.hold(base);
                int rightStart = text.at();
                kind = sums ? chain(false) : call();
                if (kind != 0 && kind != kinds.number()) {
                    return text.fail(KIND, rightStart);
                }
                out.operate(operation, base, left);
            }
            return kind;
        }

        private int operation(boolean sums) {
            switch (text.sort()) {
                case Text.PLUS:
                    return sums ? ProgramCode.ADD : 0;
                case Text.MINUS:
                    return sums ? ProgramCode.SUBTRACT : 0;
                case Text.TIMES:
                    return sums ? 0 : ProgramCode.MULTIPLY;
                default:
                    return 0;
            }
        }

        private int call() {
            int start = text.at();
            int base = out.top();
            int kind = first();
            for (int i = 0; i < Text.MOST && kind != 0; i++) {
                if (text.sort() == Text.LEFT_SQUARE) {
                    kind = settled(typeCall(kind, start, base), start);
                } else if (ProgramGrammar.startsFirst(text.sort())) {
                    kind = settled(valueCall(kind, start, base), start);
                } else {
                    break;
                }
            }
            return kind;
        }

        private int typeCall(int kind, int start, int base) {
            if (kinds.tag(kind) != Kinds.ALL) {
                return text.fail(KIND, start);
            }
            int function = out.hold(base);
            text.skip(1);
            int argument = readKind();
            if (argument == 0) {
                return 0;
            }
            text.skip(1);
            out.call(base, function, ProgramCode.NO_SLOT);
            return kinds.apply(kind, argument);
        }

        private int valueCall(int kind, int start, int base) {
            if (kinds.tag(kind) != Kinds.ARROW) {
                return text.fail(KIND, start);
            }
            int function = out.hold(base);
            int argumentStart = text.at();
            int argument = first();
            if (argument == 0) {
                return 0;
            }
            if (argument != kinds.child(kind, 0)) {
                return text.fail(KIND, argumentStart);
            }
            out.call(base, function, out.operand());
            return kinds.child(kind, 1);
        }

        private int first() {
            switch (text.sort()) {
                case Text.NUMBER:
                    out.number(text.numberAt(text.at()));
                    text.skip(1);
                    return kinds.number();
                case Text.NAME:
                    return variable();
                case Text.LEFT_ROUND:
                    text.skip(1);
                    int kind = expression();
                    text.skip(1);
                    return kind;
                case Text.LESS:
                    return tuple();
                case Text.HASH:
                    return part();
                default:
                    return choice();
            }
        }

        private int variable() {
            int start = text.at();
            long name = text.nameAt(start);
            for (int i = named - 1; i >= 0; i--) {
                if (names[i] == name) {
                    out.variable(i);
                    text.skip(1);
                    return settled(nameKinds[i], start);
                }
            }
            return text.fail(NAME, start);
        }

        private int tuple() {
            int start = text.at();
            int base = out.top();
            int n = readParts(false);
            if (n < 0) {
                return 0;
            }
            out.tuple(n, base);
            return settled(kinds.make(Kinds.TUPLE, 0, n), start);
        }

        /** Pushes what stands between < and >; how many, -1 if there is a fault in one. */
        private int readParts(boolean ofKinds) {
            int n = 0;
            text.skip(1);
            for (; n < MOST_FIELDS && text.sort() != Text.MORE; n++) {
                int kind = ofKinds ? readKind() : expression();
                if (kind == 0) {
                    return -1;
                }
                kinds.push(kind, 0);
                if (!ofKinds) {
                    out.push();
                }
                if (text.sort() == Text.COMMA) {
                    text.skip(1);
                }
            }
            text.skip(1);
            return n;
        }

        private int part() {
            int start = text.at();
            int base = out.top();
            int number = text.numberAt(start + 1);
            text.skip(2);
            int kind = first();
            if (kind == 0) {
                return 0;
            }
            if (kinds.tag(kind) != Kinds.TUPLE || number > kinds.size(kind)) {
                return text.fail(KIND, start);
            }
            out.part(number - 1, base);
            return kinds.child(kind, number - 1);
        }

        private int choice() {
            int base = out.top();
            text.skip(2);
            int askedStart = text.at();
            int asked = expression();
            if (asked != 0 && asked != kinds.number()) {
                return text.fail(KIND, askedStart);
            }
            int branch = out.branch(base);
            text.skip(1);
            int kind = asked == 0 ? 0 : expression();
            out.settle(base);
            int jump = out.jump();
            out.land(branch);
            text.skip(1);
            int otherStart = text.at();
            int other = kind == 0 ? 0 : expression();
            if (other == 0) {
                return 0;
            }
            if (other != kind) {
                return text.fail(KIND, otherStart);
            }
            out.settle(base);
            out.land(jump);
            text.skip(1);
            return kind;
        }

        private int readKind() {
            int left = readUnit();
            if (left == 0 || text.sort() != Text.ARROW) {
                return left;
            }
            text.skip(1);
            int right = readKind();
            return right == 0 ? 0 : kinds.arrow(left, right);
        }

        private int readUnit() {
            int start = text.at();
            int kind = kinds.number();
            switch (text.sort()) {
                case Text.NAME:
                    kind = kinds.meaning(text.nameAt(start));
                    if (kind == 0) {
                        return text.fail(NAME, start);
                    }
                    break;
                case Text.ALL:
                    text.skip(3);
                    kinds.bind(text.nameAt(start + 1));
                    kind = readKind();
                    kinds.unbind(1);
                    return kind == 0 ? 0 : kinds.binder(Kinds.ALL, kind);
                case Text.LESS:
                    int n = readParts(true);
                    return n < 0 ? 0 : kinds.make(Kinds.TUPLE, 0, n);
                case Text.LEFT_ROUND:
                    text.skip(1);
                    kind = readKind();
                    break;
                default:
                    break;
            }
            text.skip(1);
            return kind;
        }
    }

    /**
     * The code of a program: instructions over slots. A variable's slot is how many are told around
     * it, behind the variables are values that wait, then numbers as they stand. A body stands
     * behind the instruction that makes its function. No instruction goes back, so one way from the
     * end to the beginning tells which variables are free in what is left to be done.
     */
    private static final class ProgramCode {
        static final int MOVE = 1;
        static final int ADD = 2;
        static final int SUBTRACT = 3;
        static final int MULTIPLY = 4;
        static final int PART = 5;
        static final int ROW = 6;
        static final int PUT = 7;
        static final int TAKE = 8;
        static final int CLOSURE = 9;
        static final int ENTER = 10;
        static final int BRANCH = 11;
        static final int JUMP = 12;
        static final int CALL = 13;
        static final int TEXT_CALL = 14;
        static final int LAST_CALL = 15;
        static final int RETURN = 16;
        static final int HALT = 17;

        static final int NO_SLOT = -1;
        /** At most 20 of fun, fix and let are open, and a fix tells two. */
        static final int VARIABLES = 40;
        static final int WAITING = VARIABLES;
        static final int NUMBERS = WAITING + 400;
        static final int SLOTS = NUMBERS + 400;

        private static final int MOST = 2048;

        private final int[] operations = new int[MOST];
        private final int[] targets = new int[MOST];
        private final int[] lefts = new int[MOST];
        private final int[] rights = new int[MOST];
        private final int[] waits = new int[MOST];
        private final long[] live = new long[MOST + 1];
        private final int[] numbers = new int[SLOTS - NUMBERS];
        private final int[] pushed = new int[SLOTS];
        private int size;
        private int numbered;
        private int pushes;
        private int bodies;
        private int top;
        private int operand;

        void clear() {
            size = 0;
            numbered = 0;
            pushes = 0;
            bodies = 0;
            top = 0;
            operand = 0;
        }

        private int emit(int operation, int target, int left, int right) {
            if (size >= MOST) {
                return MOST - 1;
            }
            operations[size] = operation;
            targets[size] = target;
            lefts[size] = left;
            rights[size] = right;
            waits[size] = 0;
            size++;
            return size - 1;
        }

        /** How many values wait. */
        int top() {
            return top;
        }

        /** The slot of the e that was read last. */
        int operand() {
            return operand;
        }

        private void give(int base) {
            top = base;
            operand = WAITING + base;
        }

        private static boolean waitsIn(int slot) {
            return slot >= WAITING && slot < NUMBERS;
        }

        void number(int value) {
            if (numbered < numbers.length) {
                numbers[numbered] = value;
                operand = NUMBERS + numbered;
                numbered++;
            }
        }

        void variable(int slot) {
            operand = slot;
        }

        /** Lets the last value wait while more is read; its slot. */
        int hold(int base) {
            top = waitsIn(operand) ? base + 1 : base;
            return operand;
        }

        /** Puts the last value where one that waits would be, whatever it was. */
        void settle(int base) {
            if (operand != WAITING + base) {
                emit(MOVE, WAITING + base, operand, NO_SLOT);
            }
            give(base);
        }

        void assign(int slot, int base) {
            emit(MOVE, slot, operand, NO_SLOT);
            top = base;
        }

        void operate(int operation, int base, int left) {
            emit(operation, WAITING + base, left, operand);
            give(base);
        }

        void part(int index, int base) {
            emit(PART, WAITING + base, operand, index);
            give(base);
        }

        void push() {
            if (pushes < SLOTS) {
                pushed[pushes] = operand;
                pushes++;
                top = waitsIn(operand) ? top + 1 : top;
            }
        }

        void tuple(int n, int base) {
            int from = Math.max(0, pushes - n);
            emit(ROW, n, NO_SLOT, NO_SLOT);
            for (int i = from; i < pushes; i++) {
                emit(PUT, i - from, pushed[i], NO_SLOT);
            }
            pushes = from;
            emit(TAKE, WAITING + base, NO_SLOT, NO_SLOT);
            give(base);
        }

        /** Begins a body, whose variables are in these slots; what end() is told of it. */
        int begin(int self, int argument) {
            int closure = emit(CLOSURE, NO_SLOT, NO_SLOT, NO_SLOT);
            emit(ENTER, NO_SLOT, self, argument);
            bodies++;
            top = 0;
            return closure;
        }

        void end(int closure, int base) {
            emit(RETURN, NO_SLOT, operand, NO_SLOT);
            bodies--;
            if (closure >= 0 && closure < size) {
                targets[closure] = WAITING + base;
                land(closure);
            }
            give(base);
        }

        int branch(int base) {
            top = base;
            return emit(BRANCH, NO_SLOT, operand, NO_SLOT);
        }

        int jump() {
            return emit(JUMP, NO_SLOT, NO_SLOT, NO_SLOT);
        }

        /** What was emitted there goes on here. */
        void land(int index) {
            if (index >= 0 && index < MOST) {
                rights[index] = size;
            }
        }

        void call(int base, int function, int argument) {
            int index = emit(bodies > 0 ? CALL : TEXT_CALL, WAITING + base, function, argument);
            waits[index] = base;
            give(base);
        }

        void finish() {
            emit(HALT, NO_SLOT, operand, NO_SLOT);
            live[size] = 0;
            for (int i = size - 1; i >= 0; i--) {
                live[i] = liveAt(i);
                if (operations[i] == CALL && isLast(i)) {
                    operations[i] = LAST_CALL;
                }
            }
        }

        private static long bit(int slot) {
            return slot >= 0 && slot < VARIABLES ? 1L << slot : 0;
        }

        private long liveAt(int i) {
            long behind = live[i + 1];
            int left = lefts[i];
            int right = rights[i];
            switch (operations[i]) {
                case MOVE:
                    return behind & ~bit(targets[i]) | bit(left);
                case ADD:
                case SUBTRACT:
                case MULTIPLY:
                case CALL:
                case TEXT_CALL:
                    return behind | bit(left) | bit(right);
                case CLOSURE:
                    return behind | freeAt(right);
                case ENTER:
                    return behind & ~bit(left) & ~bit(right);
                case BRANCH:
                    return behind | bit(left) | freeAt(right);
                case JUMP:
                    return freeAt(right);
                case RETURN:
                case HALT:
                    return bit(left);
                default:
                    return behind | bit(left);
            }
        }

        private boolean isLast(int i) {
            int next = i + 1;
            for (int n = 0; n < MOST && next < size && operations[next] == JUMP; n++) {
                next = Math.max(0, rights[next]);
            }
            return next < size && operations[next] == RETURN && lefts[next] == targets[i];
        }

        int operationAt(int i) {
            return i >= 0 && i < size ? operations[i] : 0;
        }

        int targetAt(int i) {
            return i >= 0 && i < size ? targets[i] : NO_SLOT;
        }

        int leftAt(int i) {
            return i >= 0 && i < size ? lefts[i] : NO_SLOT;
        }

        int rightAt(int i) {
            return i >= 0 && i < size ? rights[i] : NO_SLOT;
        }

        int waitsAt(int i) {
            return i >= 0 && i < size ? waits[i] : 0;
        }

        /** The variables that are free from an instruction on, a bit for each slot. */
        long freeAt(int i) {
            return i >= 0 && i <= size ? live[i] : 0;
        }

        /** Whether the f of a fix is free in its e. */
        boolean usesSelf(int enter) {
            return (freeAt(enter + 1) & bit(leftAt(enter))) != 0;
        }

        void copyNumbers(int[] slots) {
            for (int i = 0; i < numbered && NUMBERS + i < slots.length; i++) {
                slots[NUMBERS + i] = numbers[i];
            }
        }
    }

    /**
     * Runs a program's code. A function is a row of two: where its body enters, and the row of its
     * free variables. What a call comes back to is likewise a row of two: the call, and the row of
     * what is kept for it.
     */
    private static final class ProgramMachine {
        private static final int RUNNING = -1;
        private static final int MOST_STEPS = 50000000;

        private final ProgramCode in;
        private final Memory memory;
        private final int[] slots = new int[ProgramCode.SLOTS];
        private int next;
        private int back;
        private int row;
        private int fuel;
        private int calls;
        private int notLast;
        private int met;
        private int result;
        private int state;

        ProgramMachine(ProgramCode in, Memory memory) {
            this.in = in;
            this.memory = memory;
        }

        int calls() {
            return calls;
        }

        int notLast() {
            return notLast;
        }

        int met() {
            return met;
        }

        int result() {
            return result;
        }

        int start(int most) {
            in.copyNumbers(slots);
            next = 0;
            back = 0;
            row = 0;
            fuel = most;
            calls = 0;
            notLast = 0;
            met = 0;
            result = 0;
            state = RUNNING;
            for (int n = 0; n < MOST_STEPS && state == RUNNING; n++) {
                step(next);
            }
            return state;
        }

        private int get(int slot) {
            return slot >= 0 && slot < ProgramCode.SLOTS ? slots[slot] : 0;
        }

        private void set(int slot, int value) {
            if (slot >= 0 && slot < ProgramCode.SLOTS) {
                slots[slot] = value;
            }
        }

        private void step(int i) {
            next = i + 1;
            switch (in.operationAt(i)) {
                case ProgramCode.PART:
                    set(in.targetAt(i), memory.word(get(in.leftAt(i)) + in.rightAt(i)));
                    break;
                case ProgramCode.ROW:
                    row = newRow(in.targetAt(i));
                    break;
                case ProgramCode.PUT:
                    memory.put(row + in.targetAt(i), get(in.leftAt(i)));
                    break;
                case ProgramCode.TAKE:
                    set(in.targetAt(i), row);
                    break;
                case ProgramCode.CLOSURE:
                    makeClosure(i);
                    break;
                case ProgramCode.BRANCH:
                    next = get(in.leftAt(i)) == 0 ? next : in.rightAt(i);
                    break;
                case ProgramCode.JUMP:
                    next = in.rightAt(i);
                    break;
                case ProgramCode.CALL:
                case ProgramCode.TEXT_CALL:
                    keepAndCall(i);
                    break;
                case ProgramCode.LAST_CALL:
                    call(i, back);
                    break;
                case ProgramCode.RETURN:
                    comeBack(get(in.leftAt(i)));
                    break;
                case ProgramCode.HALT:
                    result = get(in.leftAt(i));
                    state = ENDED;
                    break;
                default:
                    set(in.targetAt(i), computed(i));
                    break;
            }
        }

        private int computed(int i) {
            int left = get(in.leftAt(i));
            int right = get(in.rightAt(i));
            switch (in.operationAt(i)) {
                case ProgramCode.ADD:
                    return left + right;
                case ProgramCode.SUBTRACT:
                    return left - right;
                case ProgramCode.MULTIPLY:
                    return left * right;
                default:
                    return left;
            }
        }

        /** The place of a new row; behind one for which there is no room the run is OUT. */
        private int newRow(int length) {
            int place = memory.row(length);
            if (place < 0) {
                state = OUT;
            }
            return place;
        }

        private int newPair(int first, int second) {
            int pair = newRow(2);
            if (pair >= 0) {
                memory.put(pair, first);
                memory.put(pair + 1, second);
            }
            return pair;
        }

        /** Stores variables from a place on; the place behind them. */
        private int store(long variables, int from) {
            int place = from;
            long left = variables;
            for (int slot = 0; slot < ProgramCode.VARIABLES && left != 0; slot++) {
                if ((left & 1L) != 0) {
                    memory.put(place, slots[slot]);
                    place++;
                }
                left >>>= 1;
            }
            return place;
        }

        /** Loads variables from a place on; the place behind them. */
        private int load(long variables, int from) {
            int place = from;
            long left = variables;
            for (int slot = 0; slot < ProgramCode.VARIABLES && left != 0; slot++) {
                if ((left & 1L) != 0) {
                    slots[slot] = memory.word(place);
                    place++;
                }
                left >>>= 1;
            }
            return place;
        }

        private void makeClosure(int i) {
            met++;
            long free = in.freeAt(i + 1);
            int kept = newRow(Long.bitCount(free));
            if (state != RUNNING) {
                return;
            }
            store(free, kept);
            set(in.targetAt(i), newPair(i + 1, kept));
            next = in.rightAt(i);
        }

        private void keepAndCall(int i) {
            long free = in.freeAt(i + 1);
            int waiting = in.waitsAt(i);
            int mine = in.operationAt(i) == ProgramCode.CALL ? 1 : 0;
            int kept = newRow(Long.bitCount(free) + waiting + mine);
            if (state != RUNNING) {
                return;
            }
            int place = store(free, kept);
            for (int k = 0; k < waiting; k++) {
                memory.put(place + k, get(ProgramCode.WAITING + k));
            }
            if (mine > 0) {
                memory.put(place + waiting, back);
            }
            int pair = newPair(i, kept);
            if (state == RUNNING) {
                call(i, pair);
            }
        }

        private void call(int i, int comesBack) {
            if (calls >= fuel) {
                state = FUEL;
                return;
            }
            calls++;
            notLast += in.operationAt(i) == ProgramCode.LAST_CALL ? 0 : 1;
            int function = get(in.leftAt(i));
            int argument = get(in.rightAt(i));
            int enter = memory.word(function);
            int kept = memory.word(function + 1);
            load(in.freeAt(enter), kept);
            set(in.rightAt(enter), argument);
            if (in.usesSelf(enter)) {
                set(in.leftAt(enter), newPair(enter, kept));
            }
            back = comesBack;
            next = enter + 1;
        }

        private void comeBack(int value) {
            int i = memory.word(back);
            int place = load(in.freeAt(i + 1), memory.word(back + 1));
            int waiting = in.waitsAt(i);
            for (int k = 0; k < waiting; k++) {
                set(ProgramCode.WAITING + k, memory.word(place + k));
            }
            if (in.operationAt(i) == ProgramCode.CALL) {
                back = memory.word(place + waiting);
            }
            set(in.targetAt(i), value);
            next = i + 1;
        }
    }

    /** SYNTAX and ROOM of blocks, and where each block begins. */
    private static final class BlockGrammar {
        static final int MOST_BLOCKS = 40;

        private static final int MOST_TOKENS = 1200;
        private static final int MOST_OPEN = 30;
        private static final int MOST_VARS = 16;
        private static final int MOST_FIELDS = 8;
        private static final int LARGEST_FIELD = 7;

        private final Text text;
        private final int[] starts = new int[MOST_BLOCKS];
        private int size;

        BlockGrammar(Text text) {
            this.text = text;
        }

        int size() {
            return size;
        }

        /** The token of a block's name. */
        int startOf(int block) {
            return block >= 0 && block < size ? starts[block] : 0;
        }

        void read() {
            text.begin(MOST_TOKENS, MOST_OPEN);
            size = 0;
            boolean more = true;
            for (int block = 0; block <= MOST_BLOCKS && more; block++) {
                text.limit(block >= MOST_BLOCKS);
                readHeader();
                boolean open = true;
                for (int i = 0; i < Text.MOST && open && !text.failed(); i++) {
                    open = text.sort() != Text.JMP && text.sort() != Text.HALT;
                    readInstruction();
                }
                more = text.sort() == Text.NAME;
            }
            text.wantEnd();
        }

        private void readHeader() {
            if (size < MOST_BLOCKS) {
                starts[size] = text.at();
                size++;
            }
            text.want(Text.NAME);
            text.want(Text.COLON);
            readVars();
            readFile();
        }

        private void readVars() {
            if (!text.opens(Text.LEFT_SQUARE)) {
                return;
            }
            text.want(Text.NAME);
            for (int i = 1; i <= MOST_VARS && text.sort() == Text.NAME; i++) {
                text.limit(i >= MOST_VARS);
                text.accept();
            }
            text.wantClose(Text.RIGHT_SQUARE);
        }

        private void readFile() {
            text.wantOpen(Text.LEFT_CURLY);
            if (text.sort() != Text.RIGHT_CURLY) {
                readTold();
                for (int i = 0; i < Text.MOST && text.takes(Text.COMMA); i++) {
                    readTold();
                }
            }
            text.wantClose(Text.RIGHT_CURLY);
        }

        private void readTold() {
            text.want(Text.REGISTER);
            text.want(Text.COLON);
            readKind();
        }

        private void readKind() {
            switch (text.sort()) {
                case Text.BLOCK_INT:
                case Text.NAME:
                    text.accept();
                    break;
                case Text.LESS:
                    readFields(true);
                    break;
                case Text.CODE:
                    text.open();
                    readVars();
                    readFile();
                    text.close();
                    break;
                case Text.SOME:
                    text.open();
                    text.want(Text.NAME);
                    text.want(Text.DOT);
                    readKind();
                    text.close();
                    break;
                default:
                    text.syntax();
                    break;
            }
        }

        /** The fields of a kind, which may have a ?, or the kinds of a malloc. */
        private void readFields(boolean mayMiss) {
            text.wantOpen(Text.LESS);
            if (text.sort() != Text.MORE) {
                for (int field = 1; field <= MOST_FIELDS + 1; field++) {
                    text.limit(field > MOST_FIELDS);
                    readKind();
                    if (mayMiss) {
                        text.takes(Text.QUERY);
                    }
                    if (!text.takes(Text.COMMA)) {
                        break;
                    }
                }
            }
            text.wantClose(Text.MORE);
        }

        private void readInstruction() {
            int sort = text.sort();
            if (sort < Text.MOV || sort > Text.HALT) {
                text.syntax();
                return;
            }
            text.accept();
            switch (sort) {
                case Text.MOV:
                case Text.BNZ:
                    readRegister();
                    readValue();
                    break;
                case Text.ADD:
                case Text.SUB:
                case Text.MUL:
                    readRegister();
                    readRegister();
                    readValue();
                    break;
                case Text.LD:
                    readRegister();
                    readPlace();
                    break;
                case Text.ST:
                    readPlace();
                    text.want(Text.COMMA);
                    text.want(Text.REGISTER);
                    break;
                case Text.MALLOC:
                    text.want(Text.REGISTER);
                    readFields(false);
                    break;
                case Text.UNPACK:
                    text.want(Text.NAME);
                    text.want(Text.COMMA);
                    readRegister();
                    readValue();
                    break;
                case Text.JMP:
                    readValue();
                    break;
                default:
                    break;
            }
            text.want(Text.SEMICOLON);
        }

        private void readRegister() {
            text.want(Text.REGISTER);
            text.want(Text.COMMA);
        }

        private void readPlace() {
            text.want(Text.REGISTER);
            text.wantOpen(Text.LEFT_ROUND);
            text.limit(text.numberAt(text.at()) > LARGEST_FIELD);
            text.want(Text.NUMBER);
            text.wantClose(Text.RIGHT_ROUND);
        }

        private void readValue() {
            switch (text.sort()) {
                case Text.NUMBER:
                case Text.REGISTER:
                case Text.NAME:
                    text.accept();
                    break;
                case Text.MINUS:
                    text.accept();
                    text.want(Text.NUMBER);
                    break;
                case Text.PACK:
                    readPack();
                    break;
                default:
                    text.syntax();
                    break;
            }
            for (int i = 0; i < Text.MOST && text.opens(Text.LEFT_SQUARE); i++) {
                readKind();
                text.wantClose(Text.RIGHT_SQUARE);
            }
        }

        private void readPack() {
            text.open();
            text.wantOpen(Text.LEFT_SQUARE);
            readKind();
            text.want(Text.COMMA);
            readValue();
            text.wantClose(Text.RIGHT_SQUARE);
            text.want(Text.AS);
            readKind();
            text.close();
        }
    }

    /**
     * Judges blocks without SYNTAX and ROOM, from the left, and stops at the first fault. A label
     * whose block has a fault in its vars or file is UNKNOWN, and what is made of it likewise.
     */
    private static final class BlockJudge {
        private static final int TWICE = 3;
        private static final int NAME = 4;
        private static final int KIND = 5;
        private static final int REGISTERS = 16;
        private static final int MOST_VARS = 16;
        private static final int MOST_FIELDS = 8;

        private final Text text;
        private final Kinds kinds;
        private final BlockGrammar grammar;
        private final BlockCode out;
        private final int[] headers = new int[BlockGrammar.MOST_BLOCKS];
        private final int[] registers = new int[REGISTERS];
        private int mode;
        private int operand;

        BlockJudge(Text text, Kinds kinds, BlockGrammar grammar, BlockCode out) {
            this.text = text;
            this.kinds = kinds;
            this.grammar = grammar;
            this.out = out;
        }

        void judge() {
            kinds.clear();
            out.clear();
            readHeaders();
            for (int block = 0; block < grammar.size() && !text.failed(); block++) {
                beginBlock(block);
                boolean more = !text.failed();
                for (int i = 0; i < Text.MOST && more; i++) {
                    boolean last = text.sort() == Text.JMP || text.sort() == Text.HALT;
                    judgeInstruction();
                    more = !last && !text.failed();
                }
            }
        }

        /** Ahead of all else, as a jump may go to a label that is told behind it. */
        private void readHeaders() {
            for (int block = 0; block < grammar.size() && block < headers.length; block++) {
                text.move(grammar.startOf(block) + 2);
                kinds.forgetNames();
                headers[block] = readCode();
                text.forgive();
            }
        }

        private int headerOf(int block) {
            return block >= 0 && block < headers.length ? headers[block] : 0;
        }

        /** The first block of that name; -1 if there is none. */
        private int blockOf(long name) {
            for (int block = 0; block < grammar.size(); block++) {
                if (text.nameAt(grammar.startOf(block)) == name) {
                    return block;
                }
            }
            return -1;
        }

        private void beginBlock(int block) {
            int start = grammar.startOf(block);
            if (blockOf(text.nameAt(start)) != block) {
                text.fail(TWICE, start);
                return;
            }
            text.move(start + 2);
            kinds.forgetNames();
            if (block == 0) {
                judgeFirstHeader();
            }
            int header = text.failed() ? 0 : readCode();
            if (header != 0) {
                enter(header, start);
                out.beginBlock();
            }
        }

        /** The first block has neither vars nor registers. */
        private void judgeFirstHeader() {
            int start = text.at();
            if (text.sort() == Text.LEFT_SQUARE) {
                if (readVars() >= 0) {
                    text.fail(KIND, start);
                }
                return;
            }
            if (kinds.size(headerOf(0)) > 0) {
                text.fail(KIND, start);
            }
        }

        /** Makes the block's vars names of kinds, and its file what the registers are. */
        private void enter(int header, int start) {
            int kind = header;
            int vars = kinds.extra(header);
            for (int i = 0; i < vars; i++) {
                int free = kinds.bindFree(text.nameAt(start + 3 + i));
                kind = kinds.apply(kind, kinds.free(free));
            }
            Arrays.fill(registers, 0);
            for (int i = 0; i < kinds.size(kind); i++) {
                setRegister(kinds.mark(kind, i), kinds.child(kind, i));
            }
        }

        private void setRegister(int register, int kind) {
            if (register > 0 && register < REGISTERS) {
                registers[register] = kind;
            }
        }

        private int kindOf(int register) {
            return register > 0 && register < REGISTERS ? registers[register] : 0;
        }

        /** vars, which are bound; how many, -1 if one is told twice. */
        private int readVars() {
            if (text.sort() != Text.LEFT_SQUARE) {
                return 0;
            }
            text.skip(1);
            int vars = 0;
            for (; vars < MOST_VARS && text.sort() == Text.NAME; vars++) {
                long name = text.nameAt(text.at());
                if (kinds.isAmongLast(name, vars)) {
                    text.fail(TWICE, text.at());
                    return -1;
                }
                kinds.bind(name);
                text.skip(1);
            }
            text.skip(1);
            return vars;
        }

        /** vars and a file as a code; 0 if there is a fault in them. */
        private int readCode() {
            int vars = readVars();
            if (vars < 0) {
                return 0;
            }
            text.skip(1);
            int told = 0;
            int n = 0;
            for (; n < REGISTERS && text.sort() == Text.REGISTER; n++) {
                int register = text.numberAt(text.at());
                if ((told >>> register & 1) != 0) {
                    return text.fail(TWICE, text.at());
                }
                told |= 1 << register;
                text.skip(2);
                int kind = readKind();
                if (kind == 0) {
                    return 0;
                }
                kinds.push(kind, register);
                skipComma();
            }
            text.skip(1);
            kinds.unbind(vars);
            kinds.order(n);
            return kinds.make(Kinds.CODE, vars, n);
        }

        private void skipComma() {
            if (text.sort() == Text.COMMA) {
                text.skip(1);
            }
        }

        private int readKind() {
            int start = text.at();
            switch (text.sort()) {
                case Text.NAME:
                    text.skip(1);
                    int meant = kinds.meaning(text.nameAt(start));
                    return meant == 0 ? text.fail(NAME, start) : meant;
                case Text.LESS:
                    text.skip(1);
                    return readFields(0);
                case Text.CODE:
                    text.skip(1);
                    return readCode();
                case Text.SOME:
                    text.skip(3);
                    kinds.bind(text.nameAt(start + 1));
                    int behind = readKind();
                    kinds.unbind(1);
                    return behind == 0 ? 0 : kinds.binder(Kinds.SOME, behind);
                default:
                    text.skip(1);
                    return kinds.number();
            }
        }

        /** The < > of the kinds here, with this mark if they have no ?. */
        private int readFields(int bareMark) {
            int n = 0;
            for (; n < MOST_FIELDS && text.sort() != Text.MORE; n++) {
                int kind = readKind();
                if (kind == 0) {
                    return 0;
                }
                int mark = bareMark;
                if (text.sort() == Text.QUERY) {
                    mark = 1;
                    text.skip(1);
                }
                kinds.push(kind, mark);
                skipComma();
            }
            text.skip(1);
            return kinds.make(Kinds.TUPLE, 0, n);
        }

        private boolean isNumber(int kind) {
            return kind == Kinds.UNKNOWN || kind == kinds.number();
        }

        /** The kind of the register here; 0 if it has none, which is a fault. */
        private int usedRegister() {
            int kind = kindOf(text.numberAt(text.at()));
            return kind == 0 ? text.fail(NAME, text.at()) : kind;
        }

        /** The kind of the v here, UNKNOWN, or 0 for a fault; mode and operand tell its word. */
        private int readValue() {
            int start = text.at();
            int kind = readPlainValue();
            for (int i = 0; i < Text.MOST && kind != 0 && text.sort() == Text.LEFT_SQUARE; i++) {
                if (kind != Kinds.UNKNOWN && !hasVars(kind)) {
                    return text.fail(KIND, start);
                }
                text.skip(1);
                int argument = readKind();
                text.skip(1);
                if (argument == 0) {
                    return 0;
                }
                kind = kind == Kinds.UNKNOWN ? kind : kinds.apply(kind, argument);
            }
            return kind;
        }

        private boolean hasVars(int kind) {
            return kinds.tag(kind) == Kinds.CODE && kinds.extra(kind) > 0;
        }

        private int readPlainValue() {
            int start = text.at();
            switch (text.sort()) {
                case Text.REGISTER:
                    give(BlockCode.OF_REGISTER, text.numberAt(start));
                    int kind = usedRegister();
                    text.skip(1);
                    return kind;
                case Text.NAME:
                    return readLabel();
                case Text.PACK:
                    return readPack();
                case Text.MINUS:
                    give(BlockCode.OF_NUMBER, -text.numberAt(start + 1));
                    text.skip(2);
                    return kinds.number();
                default:
                    give(BlockCode.OF_NUMBER, text.numberAt(start));
                    text.skip(1);
                    return kinds.number();
            }
        }

        private void give(int newMode, int newOperand) {
            mode = newMode;
            operand = newOperand;
        }

        private int readLabel() {
            int block = blockOf(text.nameAt(text.at()));
            if (block < 0) {
                return text.fail(NAME, text.at());
            }
            give(BlockCode.OF_LABEL, block);
            text.skip(1);
            int kind = headerOf(block);
            return kind == 0 ? Kinds.UNKNOWN : kind;
        }

        private int readPack() {
            text.skip(2);
            int hidden = readKind();
            text.skip(1);
            int valueStart = text.at();
            int kind = hidden == 0 ? 0 : readValue();
            text.skip(2);
            int someStart = text.at();
            int some = kind == 0 ? 0 : readKind();
            if (some == 0) {
                return 0;
            }
            if (kinds.tag(some) != Kinds.SOME) {
                return text.fail(KIND, someStart);
            }
            if (kind != Kinds.UNKNOWN && kind != kinds.apply(some, hidden)) {
                return text.fail(KIND, valueStart);
            }
            return some;
        }

        /** Judges the ins here and goes behind it. */
        private void judgeInstruction() {
            int sort = text.sort();
            switch (sort) {
                case Text.MOV:
                    judgeMove();
                    break;
                case Text.ADD:
                case Text.SUB:
                case Text.MUL:
                    judgeOperation(sort);
                    break;
                case Text.LD:
                    judgeLoad();
                    break;
                case Text.ST:
                    judgeStore();
                    break;
                case Text.MALLOC:
                    judgeMalloc();
                    break;
                case Text.BNZ:
                    judgeLeap(sort, judgeAsked());
                    break;
                case Text.UNPACK:
                    judgeUnpack();
                    break;
                case Text.JMP:
                    text.skip(1);
                    judgeLeap(sort, 0);
                    break;
                default:
                    judgeHalt();
                    break;
            }
            text.skip(1);
        }

        private void judgeMove() {
            int target = text.numberAt(text.at() + 1);
            text.skip(3);
            int kind = readValue();
            if (kind != 0) {
                setRegister(target, kind);
                out.add(Text.MOV, target, 0, mode, operand);
            }
        }

        private void judgeOperation(int sort) {
            int target = text.numberAt(text.at() + 1);
            text.skip(3);
            int left = text.numberAt(text.at());
            if (!judgeNumber(usedRegister(), text.at())) {
                return;
            }
            text.skip(2);
            int start = text.at();
            if (judgeNumber(readValue(), start)) {
                setRegister(target, kinds.number());
                out.add(sort, target, left, mode, operand);
            }
        }

        /** Whether what begins at a token is an int; if it is none that is a fault. */
        private boolean judgeNumber(int kind, int start) {
            if (kind != 0 && !isNumber(kind)) {
                text.fail(KIND, start);
            }
            return !text.failed();
        }

        private void judgeLoad() {
            int target = text.numberAt(text.at() + 1);
            text.skip(3);
            int start = text.at();
            int field = text.numberAt(start + 2);
            int kind = usedRegister();
            if (kind == 0) {
                return;
            }
            int loaded = Kinds.UNKNOWN;
            if (kind != Kinds.UNKNOWN) {
                if (!hasField(kind, field) || kinds.mark(kind, field) != 0) {
                    text.fail(KIND, start);
                    return;
                }
                loaded = kinds.child(kind, field);
            }
            setRegister(target, loaded);
            out.add(Text.LD, target, text.numberAt(start), BlockCode.OF_NUMBER, field);
            text.skip(4);
        }

        private boolean hasField(int kind, int field) {
            return kinds.tag(kind) == Kinds.TUPLE && field < kinds.size(kind);
        }

        private void judgeStore() {
            int start = text.at() + 1;
            int target = text.numberAt(start);
            int field = text.numberAt(start + 2);
            text.skip(1);
            int kind = usedRegister();
            if (kind == 0) {
                return;
            }
            boolean known = kind != Kinds.UNKNOWN;
            if (known && !hasField(kind, field)) {
                text.fail(KIND, start);
                return;
            }
            text.skip(5);
            int stored = usedRegister();
            if (stored == 0) {
                return;
            }
            if (known && stored != Kinds.UNKNOWN && stored != kinds.child(kind, field)) {
                text.fail(KIND, text.at());
                return;
            }
            setRegister(target, known ? kinds.withField(kind, field) : kind);
            out.add(Text.ST, target, text.numberAt(text.at()), BlockCode.OF_NUMBER, field);
            text.skip(1);
        }

        private void judgeMalloc() {
            int target = text.numberAt(text.at() + 1);
            text.skip(3);
            int kind = readFields(1);
            if (kind != 0) {
                setRegister(target, kind);
                out.add(Text.MALLOC, target, 0, BlockCode.OF_NUMBER, kinds.size(kind));
            }
        }

        /** Goes behind bnz, and behind the register that it asks; which one that is. */
        private int judgeAsked() {
            int asked = text.numberAt(text.at() + 1);
            text.skip(1);
            judgeNumber(usedRegister(), text.at());
            text.skip(2);
            return asked;
        }

        private void judgeLeap(int sort, int asked) {
            int start = text.at();
            int kind = text.failed() ? 0 : readValue();
            if (kind == 0) {
                return;
            }
            if (kind != Kinds.UNKNOWN && !canLeap(kind)) {
                text.fail(KIND, start);
                return;
            }
            out.add(sort, 0, asked, mode, operand);
        }

        private boolean canLeap(int kind) {
            if (kinds.tag(kind) != Kinds.CODE || kinds.extra(kind) > 0) {
                return false;
            }
            for (int i = 0; i < kinds.size(kind); i++) {
                int now = kindOf(kinds.mark(kind, i));
                if (now == 0 || !kinds.fits(now, kinds.child(kind, i))) {
                    return false;
                }
            }
            return true;
        }

        private void judgeUnpack() {
            int nameToken = text.at() + 1;
            long name = text.nameAt(nameToken);
            int target = text.numberAt(nameToken + 2);
            if (kinds.isNamed(name)) {
                text.fail(TWICE, nameToken);
                return;
            }
            text.skip(5);
            int start = text.at();
            int kind = readValue();
            if (kind == 0) {
                return;
            }
            boolean known = kind != Kinds.UNKNOWN;
            if (known && kinds.tag(kind) != Kinds.SOME) {
                text.fail(KIND, start);
                return;
            }
            int free = kinds.free(kinds.bindFree(name));
            setRegister(target, known ? kinds.apply(kind, free) : kind);
            out.add(Text.MOV, target, 0, mode, operand);
        }

        private void judgeHalt() {
            int kind = kindOf(1);
            if (kind == 0 || !isNumber(kind)) {
                text.fail(KIND, text.at());
                return;
            }
            out.add(Text.HALT, 0, 0, BlockCode.OF_NUMBER, 0);
            text.skip(1);
        }
    }

    /** The instructions of blocks, and the bytes that they become. */
    private static final class BlockCode {
        static final int OF_NUMBER = 0;
        static final int OF_LABEL = 1;
        static final int OF_REGISTER = 2;

        private static final int FIRST_ADDRESS = 8192;
        private static final int MOST = 1200;
        private static final int MOST_BYTES = 8192;

        private final int[] sorts = new int[MOST];
        private final int[] targets = new int[MOST];
        private final int[] sources = new int[MOST];
        private final int[] modes = new int[MOST];
        private final int[] operands = new int[MOST];
        private final int[] firsts = new int[BlockGrammar.MOST_BLOCKS];
        private final int[] addresses = new int[BlockGrammar.MOST_BLOCKS];
        private final byte[] bytes = new byte[MOST_BYTES];
        private int instructions;
        private int blocks;
        private int size;
        private int end;

        void clear() {
            instructions = 0;
            blocks = 0;
            size = 0;
        }

        void beginBlock() {
            if (blocks < firsts.length) {
                firsts[blocks] = instructions;
                blocks++;
            }
        }

        void add(int sort, int target, int source, int mode, int operand) {
            if (instructions < MOST) {
                sorts[instructions] = sort;
                targets[instructions] = target;
                sources[instructions] = source;
                modes[instructions] = mode;
                operands[instructions] = operand;
                instructions++;
            }
        }

        int sortAt(int i) {
            return i >= 0 && i < instructions ? sorts[i] : Text.NONE;
        }

        int targetAt(int i) {
            return i >= 0 && i < instructions ? targets[i] : 0;
        }

        int sourceAt(int i) {
            return i >= 0 && i < instructions ? sources[i] : 0;
        }

        int modeAt(int i) {
            return i >= 0 && i < instructions ? modes[i] : OF_NUMBER;
        }

        int operandAt(int i) {
            return i >= 0 && i < instructions ? operands[i] : 0;
        }

        int firstOf(int block) {
            return block >= 0 && block < blocks ? firsts[block] : instructions;
        }

        int addressOf(int block) {
            return block >= 0 && block < blocks ? addresses[block] : -1;
        }

        /** The instruction that is at a label's address; behind the last one if there is none. */
        int instructionAt(int address) {
            for (int block = 0; block < blocks; block++) {
                if (addresses[block] == address) {
                    return firsts[block];
                }
            }
            return instructions;
        }

        int size() {
            return size;
        }

        int byteAt(int address) {
            int i = address - FIRST_ADDRESS;
            return address >= FIRST_ADDRESS && i < size && i < MOST_BYTES ? bytes[i] & 255 : -1;
        }

        /** Twice, as the first time tells the addresses of labels that are behind a jump. */
        void assemble() {
            emitAll();
            emitAll();
        }

        private void emitAll() {
            size = 0;
            int block = 0;
            for (int i = 0; i < instructions; i++) {
                if (block < blocks && firsts[block] == i) {
                    addresses[block] = FIRST_ADDRESS + size;
                    block++;
                }
                emitInstruction(i);
            }
            end = FIRST_ADDRESS + size;
            emit(0xCD);
            emit(0x01);
        }

        private void emit(int b) {
            if (size < MOST_BYTES) {
                bytes[size] = (byte) b;
                size++;
            }
        }

        private void emitWord(int word) {
            for (int shift = 0; shift < 32; shift += 8) {
                emit(word >>> shift);
            }
        }

        private void emitWay(int address) {
            emitWord(address - (FIRST_ADDRESS + size + 4));
        }

        /** eax becomes a register's word. */
        private void emitGet(int register) {
            emit(0xA1);
            emitWord(4 * register);
        }

        private void emitSet(int register) {
            emit(0xA3);
            emitWord(4 * register);
        }

        private void emitInstruction(int i) {
            switch (sorts[i]) {
                case Text.MOV:
                    emitValue(i);
                    emitSet(targets[i]);
                    break;
                case Text.LD:
                    emitGet(sources[i]);
                    emit(0x8B);
                    emit(0x80);
                    emitWord(4 * operands[i]);
                    emitSet(targets[i]);
                    break;
                case Text.ST:
                    emitStore(i);
                    break;
                case Text.MALLOC:
                    emitMalloc(i);
                    break;
                case Text.BNZ:
                    emitGet(sources[i]);
                    emit(0x85);
                    emit(0xC0);
                    emit(0x0F);
                    emit(0x84);
                    emitWord(modes[i] == OF_REGISTER ? 6 : 5);
                    emitLeap(i);
                    break;
                case Text.JMP:
                    emitLeap(i);
                    break;
                case Text.HALT:
                    emit(0xF4);
                    break;
                default:
                    emitGet(sources[i]);
                    emitOperation(i);
                    emitSet(targets[i]);
                    break;
            }
        }

        private void emitValue(int i) {
            if (modes[i] == OF_REGISTER) {
                emitGet(operands[i]);
            } else {
                emit(0xB8);
                emitWord(modes[i] == OF_LABEL ? addressOf(operands[i]) : operands[i]);
            }
        }

        private void emitOperation(int i) {
            boolean ofRegister = modes[i] == OF_REGISTER;
            switch (sorts[i]) {
                case Text.ADD:
                    emit(ofRegister ? 0x03 : 0x05);
                    break;
                case Text.SUB:
                    emit(ofRegister ? 0x2B : 0x2D);
                    break;
                default:
                    emit(ofRegister ? 0x0F : 0x69);
                    emit(ofRegister ? 0xAF : 0xC0);
                    break;
            }
            if (ofRegister) {
                emit(0x05);
            }
            emitWord(ofRegister ? 4 * operands[i] : operands[i]);
        }

        private void emitStore(int i) {
            emitGet(sources[i]);
            emit(0x8B);
            emit(0x0D);
            emitWord(4 * targets[i]);
            emit(0x89);
            emit(0x81);
            emitWord(4 * operands[i]);
        }

        private void emitMalloc(int i) {
            emit(0x89);
            emit(0xF8);
            emit(0x81);
            emit(0xC7);
            emitWord(4 * operands[i]);
            emit(0x39);
            emit(0xF7);
            emit(0x0F);
            emit(0x87);
            emitWay(end);
            emitSet(targets[i]);
        }

        private void emitLeap(int i) {
            if (modes[i] == OF_REGISTER) {
                emit(0xFF);
                emit(0x25);
                emitWord(4 * operands[i]);
            } else {
                emit(0xE9);
                emitWay(addressOf(operands[i]));
            }
        }
    }

    /** Runs blocks. */
    private static final class BlockMachine {
        private static final int HEAP = 65536;
        private static final int REGISTERS = 16;
        private static final int RUNNING = -1;

        private final BlockCode in;
        private final Memory memory;
        private final int[] registers = new int[REGISTERS];
        private int next;
        private int steps;
        private int leaps;
        private int state;

        BlockMachine(BlockCode in, Memory memory) {
            this.in = in;
            this.memory = memory;
        }

        int steps() {
            return steps;
        }

        int leaps() {
            return leaps;
        }

        int registerOf(int k) {
            return k > 0 && k < REGISTERS ? registers[k] : 0;
        }

        private void setRegister(int k, int word) {
            if (k > 0 && k < REGISTERS) {
                registers[k] = word;
            }
        }

        int start(int fuel) {
            Arrays.fill(registers, 0);
            next = in.firstOf(0);
            steps = 0;
            leaps = 0;
            state = RUNNING;
            for (int n = 0; n < fuel && state == RUNNING; n++) {
                step(next);
            }
            return state == RUNNING ? FUEL : state;
        }

        private int operand(int i) {
            int operand = in.operandAt(i);
            switch (in.modeAt(i)) {
                case BlockCode.OF_REGISTER:
                    return registerOf(operand);
                case BlockCode.OF_LABEL:
                    return in.addressOf(operand);
                default:
                    return operand;
            }
        }

        private void step(int i) {
            next = i + 1;
            steps++;
            switch (in.sortAt(i)) {
                case Text.LD:
                    setRegister(in.targetAt(i), memory.word(wordOf(in.sourceAt(i), i)));
                    break;
                case Text.ST:
                    memory.put(wordOf(in.targetAt(i), i), registerOf(in.sourceAt(i)));
                    break;
                case Text.MALLOC:
                    malloc(i);
                    break;
                case Text.BNZ:
                    if (registerOf(in.sourceAt(i)) != 0) {
                        leap(i);
                    }
                    break;
                case Text.JMP:
                    leap(i);
                    break;
                case Text.HALT:
                    state = ENDED;
                    break;
                default:
                    setRegister(in.targetAt(i), computed(i));
                    break;
            }
        }

        private int computed(int i) {
            int left = registerOf(in.sourceAt(i));
            int right = operand(i);
            switch (in.sortAt(i)) {
                case Text.ADD:
                    return left + right;
                case Text.SUB:
                    return left - right;
                case Text.MUL:
                    return left * right;
                default:
                    return right;
            }
        }

        /** Which of the heap's words a field is. */
        private int wordOf(int register, int i) {
            return (registerOf(register) - HEAP) / 4 + in.operandAt(i);
        }

        private void malloc(int i) {
            int row = memory.row(in.operandAt(i));
            if (row < 0) {
                steps--;
                state = OUT;
                return;
            }
            setRegister(in.targetAt(i), HEAP + 4 * row);
        }

        private void leap(int i) {
            leaps++;
            next = in.instructionAt(operand(i));
        }
    }
}
