import java.util.Arrays;

/** A register machine for Lua 5.3 programs with whole numbers; ../shared/DOC.md says what it promises. */
public final class LuaMachine {
    private static final int TAPE_ROOM = 65_536;
    private static final int FED_BYTES = 20;
    private static final int LEAST_LIMIT = 200;
    private static final int MOST_LIMIT = 4_000;
    private static final int FIRST_LIMIT = 1_000;
    private static final int MOST_STEPS = 100_000;
    /** One step's calls nest, they never branch, so that this stands far above what any step can need. */
    private static final int MOST_TURNS = 1_000_000_000;

    private static final int MOST_PROTOTYPES = 250;
    private static final int DEEPEST_PROTOTYPE = 20;
    private static final int MOST_UPVALUES = 60;
    private static final int MOST_PARTS = 20_000;

    private static final int MOST_OBJECTS_IN_ALL = 60_000;
    private static final int MOST_ROOM_IN_ALL = 300_000;
    private static final int MOST_BYTES_IN_ALL = 400_000;
    private static final int MOST_ROOMS = 40_000;
    /** More than MOST_ROOMS, so that freed rooms need closing up but rarely. */
    private static final int POOL = 50_000;
    private static final int MOST_COROUTINES = 32;
    private static final int MOST_FRAMES = 200;
    private static final int MOST_REGISTERS = 4_000;
    private static final int MOST_VALUES = 250;
    /** A row may grow past MOST_VALUES by what up to 99 __call put before it, until it is refused. */
    private static final int ROW_ROOM = 512;
    private static final int MOST_HOPS = 100;
    private static final int MOST_OUTPUT = 20_000;
    private static final int BUCKETS = 4_096;
    /** In an instruction: the first B or C that is a constant, and the Bx that jumps nowhere. */
    private static final int FIRST_CONSTANT = 256;
    private static final int JUMP_ZERO = 131_071;

    private static final int NIL = 0;
    private static final int FALSE = 1;
    private static final int TRUE = 2;
    private static final int INTEGER = 3;
    private static final int STRING = 4;
    private static final int TABLE = 5;
    private static final int FUNCTION = 6;
    private static final int COROUTINE = 7;
    /** Objects that are no values of this kind themselves; a wrapper's value is a FUNCTION. */
    private static final int VARIABLE = 8;
    private static final int WRAPPER = 9;
    private static final int FREE = 0;

    private static final int ERROR_CALL = 1;
    private static final int ERROR_TABLE = 2;
    private static final int ERROR_TYPE = 3;
    private static final int ERROR_DEPTH = 4;
    private static final int ERROR_ZERO = 5;
    private static final int ERROR_KEY = 6;
    private static final int ERROR_NUMBER = 7;
    private static final int ERROR_PROTECTED = 8;
    private static final int ERROR_STATE = 9;
    private static final int ERROR_FULL = 10;
    private static final int ERROR_MADE = 11;

    /** As load makes them; each ends with a space. */
    private static final String BUILT_IN_NAMES =
        "print tostring type error pcall setmetatable getmetatable rawget rawset rawlen rawequal next select sub byte char len create resume yield status running wrap collect ";
    private static final String EVENT_NAMES =
        "__index __newindex __call __add __sub __mul __mod __idiv __band __bor __bxor __shl __shr __unm __bnot __concat __len __eq __lt __le __tostring __metatable ";
    private static final String TYPE_AND_STATUS_NAMES =
        "nil boolean number string table function thread suspended running normal dead ";
    private static final int ALL_NAMES = 57;
    private static final int BUILT_IN = 24;
    private static final int EVENTS = 24;
    private static final int TYPE_NAMES = 46;
    private static final int STATUS_NAMES = 53;

    private static final int INDEX_EVENT = 0;
    private static final int NEWINDEX_EVENT = 1;
    private static final int CALL_EVENT = 2;
    private static final int CONCAT_EVENT = 15;
    private static final int LEN_EVENT = 16;
    private static final int EQ_EVENT = 17;
    private static final int LT_EVENT = 18;
    private static final int TOSTRING_EVENT = 20;
    private static final int METATABLE_EVENT = 21;

    /** Places in the heap's tally; those up to COROUTINES are as count() names them. */
    private static final int EXISTING = 3;
    private static final int MADE = 4;
    private static final int COLLECTIONS = 5;
    private static final int ROOMS = 6;
    private static final int ROOM_MADE = 7;
    private static final int BYTES_MADE = 8;
    private static final int COROUTINES = 11;
    private static final int ALL_MADE = 12;
    private static final int ALL_ROOM = 13;
    private static final int ALL_BYTES = 14;
    private static final int TALLIES = 15;

    /** What the machine does next: the next instruction, or one of the turns that end the step under way. */
    private static final int NEXT_STEP = 0;
    private static final int ENTER = 1;
    private static final int PERFORM = 2;
    private static final int GIVE = 3;
    private static final int FINISH = 4;
    private static final int RAISE = 5;
    private static final int JOIN = 6;

    private static final int LUA_FRAME = 0;
    private static final int PCALL_FRAME = 1;
    private static final int RESUME_FRAME = 2;
    private static final int WRAP_FRAME = 3;
    private static final int TOSTRING_FRAME = 4;

    private static final int SUSPENDED = 0;
    private static final int RUNNING = 1;
    private static final int NORMAL = 2;
    private static final int DEAD = 3;

    private int tapeLength;
    private boolean loaded;
    private final Chunk chunk;
    private final Heap heap;
    private final Machine machine;
    private final Steps steps;
    private final BuiltIns builtIns;

    public LuaMachine() {
        chunk = new Chunk();
        heap = new Heap();
        Tables tables = new Tables(heap);
        machine = new Machine(chunk, heap, tables);
        heap.tables = tables;
        heap.machine = machine;
        steps = new Steps(machine);
        builtIns = new BuiltIns(machine);
    }

    public int feed(int a, int b, int c, int d, int e) throws IllegalStateException {
        if (tapeLength + FED_BYTES > TAPE_ROOM) {
            throw new IllegalStateException();
        }
        putOnTape(a);
        putOnTape(b);
        putOnTape(c);
        putOnTape(d);
        putOnTape(e);
        return tapeLength;
    }

    private void putOnTape(int number) {
        for (int shift = 24; shift >= 0; shift -= 8) {
            chunk.tape[tapeLength] = (byte) (number >> shift);
            tapeLength++;
        }
    }

    public int end(int n) throws IllegalArgumentException {
        if (n < 0 || n > tapeLength) {
            throw new IllegalArgumentException();
        }
        tapeLength = n;
        return n;
    }

    public int load() throws UnsupportedOperationException, IllegalStateException {
        int length = tapeLength;
        tapeLength = 0;
        loaded = false;
        if (!chunk.readAll(length) || !chunk.checkAll()) {
            throw new UnsupportedOperationException();
        }
        builtIns.outputSize = 0;
        if (!machine.boot()) {
            throw new IllegalStateException();
        }
        loaded = true;
        return chunk.prototypeCount;
    }

    public int fault(int what) throws IllegalArgumentException {
        if (what != 0 && what != 1) {
            throw new IllegalArgumentException();
        }
        return what == 0 ? chunk.faultFound : chunk.faultPlace;
    }

    public int limit(int n) throws IllegalArgumentException {
        if (n < LEAST_LIMIT || n > MOST_LIMIT) {
            throw new IllegalArgumentException();
        }
        int before = heap.most;
        heap.most = n;
        return before;
    }

    public int run(int n) throws IllegalArgumentException, IllegalStateException {
        if (n < 1 || n > MOST_STEPS) {
            throw new IllegalArgumentException();
        }
        if (!loaded) {
            throw new IllegalStateException();
        }
        for (int left = n; left > 0 && machine.ended == 0; left--) {
            steps.step();
            for (int turn = 0; turn < MOST_TURNS && machine.turn != NEXT_STEP; turn++) {
                switch (machine.turn) {
                    case ENTER: machine.enter(); break;
                    case PERFORM: builtIns.perform(); break;
                    case GIVE: machine.give(); break;
                    case FINISH: steps.finish(); break;
                    case JOIN: steps.joinOn(); break;
                    default: machine.unwind(); break;
                }
            }
        }
        return machine.ended;
    }

    public int collect() throws IllegalStateException {
        if (!loaded) {
            throw new IllegalStateException();
        }
        heap.clean();
        return heap.tally[EXISTING];
    }

    public int kind(int k) throws IndexOutOfBoundsException {
        if (hasNoResult(k)) {
            throw new IndexOutOfBoundsException();
        }
        return machine.last.kinds[k];
    }

    public long value(int k) throws IndexOutOfBoundsException {
        if (hasNoResult(k)) {
            throw new IndexOutOfBoundsException();
        }
        int kind = machine.last.kinds[k];
        long value = machine.last.values[k];
        if (kind == STRING) {
            return heap.things[(int) value].bytes.length;
        }
        return kind > STRING ? heap.numberOf(value) : value;
    }

    public int byteOf(int k, int i) throws IndexOutOfBoundsException, IllegalArgumentException {
        if (hasNoResult(k)) {
            throw new IndexOutOfBoundsException();
        }
        if (machine.last.kinds[k] != STRING) {
            throw new IllegalArgumentException();
        }
        byte[] bytes = heap.things[(int) machine.last.values[k]].bytes;
        if (i < 0 || i >= bytes.length) {
            throw new IllegalArgumentException();
        }
        return bytes[i] & 255;
    }

    private boolean hasNoResult(int k) {
        return !loaded || k < 0 || k >= machine.last.size;
    }

    public int output(int i) throws IndexOutOfBoundsException {
        if (!loaded || i < 0 || i >= builtIns.outputSize) {
            throw new IndexOutOfBoundsException();
        }
        return builtIns.printed[i] & 255;
    }

    public int count(int what) {
        if (what < 0 || what > COROUTINES) {
            return -1;
        }
        if (what == 0) {
            return tapeLength;
        }
        if (!loaded) {
            return 0;
        }
        switch (what) {
            case 1: return builtIns.outputSize;
            case 2: return machine.stepCount;
            case 9: return machine.ended != 0 ? 0 : machine.current.depth;
            case 10: return machine.last.size;
            default: return heap.tally[what];
        }
    }

    /** What is told of one prototype; where its parts lie in the chunk's rows. */
    private static final class Prototype {
        int parameters;
        int takesMore;
        int registers;
        int upvalues;
        int upvalueStart;
        int constants;
        int constantStart;
        int instructions;
        int codeStart;
        int codePlace;
        int children;
        int childStart;
        int around;
    }

    /** Holds the tape, reads a chunk from it and looks it over. */
    private static final class Chunk {
        private static final int TOO_SHORT = 1;
        private static final int NOT_SO = 2;
        private static final int TOO_DEEP = 3;
        private static final int TOO_LARGE = 4;
        private static final int TOO_LONG = 5;
        private static final int ILL_FORMED = 6;
        private static final int OPERATIONS = 46;
        private static final int JUMP = 30;
        private static final int CALL = 36;
        private static final int TAIL_CALL = 37;
        private static final int RETURN = 38;
        private static final int SET_LIST = 43;
        private static final int CLOSURE = 44;
        private static final int MORE_ARGUMENTS = 45;
        /** What A, B and C of each operation name: Register, Upvalue, K register or constant, Truth 0 or 1, x no operation. */
        private static final String A_NAMES = "RRxRRRRRURRRRRRRRxxRRRRRRRRRRR-TTTRRRRRRRRRRRR";
        private static final String B_NAMES = "R-x--UURKUK-RKKKKxxKKKKKKRRRRR-KKK-R----------";
        private static final String C_NAMES = "--x---KKK-K-KKKKKxxKKKKKK----R-KKKTT----------";

        final Prototype[] prototypes = new Prototype[MOST_PROTOTYPES];
        final int[] children = new int[MOST_PROTOTYPES];
        final int[] code = new int[MOST_PARTS];
        final byte[] constantKinds = new byte[MOST_PARTS];
        /** A string's is its place on the tape and its length, until the heap has made it. */
        final long[] constantValues = new long[MOST_PARTS];
        /** A register of the one around, or -1 - an upvalue of it. */
        final int[] upvalues = new int[MOST_PROTOTYPES * MOST_UPVALUES];
        final byte[] tape = new byte[TAPE_ROOM];
        private final int[] open = new int[DEEPEST_PROTOTYPE];
        private final int[] left = new int[DEEPEST_PROTOTYPE];
        int prototypeCount;
        int constantCount;
        private int codeCount;
        private int upvalueCount;
        private int length;
        private int at;
        int faultFound;
        int faultPlace = -1;

        boolean readAll(int tapeLength) {
            begin(tapeLength);
            int depth = 0;
            for (int n = 0; n <= MOST_PROTOTYPES; n++) {
                depth = withoutFullOnes(depth);
                if (n > 0 && depth == 0) {
                    return at == length || refuse(TOO_LONG, at);
                }
                if (n == MOST_PROTOTYPES || depth == DEEPEST_PROTOTYPE) {
                    return refuse(TOO_DEEP, at);
                }
                if (!readPrototype(n, depth == 0 ? -1 : open[depth - 1])) {
                    return false;
                }
                if (depth > 0) {
                    left[depth - 1]--;
                }
                open[depth] = n;
                left[depth] = prototypes[n].children;
                depth++;
            }
            return false;
        }

        private void begin(int tapeLength) {
            length = tapeLength;
            at = 0;
            faultFound = 0;
            faultPlace = -1;
            prototypeCount = 0;
            constantCount = 0;
            codeCount = 0;
            upvalueCount = 0;
        }

        private int withoutFullOnes(int depth) {
            int kept = depth;
            while (kept > 0 && left[kept - 1] == 0) {
                kept--;
            }
            return kept;
        }

        private boolean refuse(int fault, int place) {
            faultFound = fault;
            faultPlace = place;
            return false;
        }

        private boolean readPrototype(int n, int around) {
            if (prototypes[n] == null) {
                prototypes[n] = new Prototype();
            }
            Prototype p = prototypes[n];
            p.around = around;
            prototypeCount = n + 1;
            if (!readHead(p) || !readUpvalues(p) || !readConstants(p) || !readCode(p)) {
                return false;
            }
            p.children = readNumber(1);
            return p.children >= 0;
        }

        /** The number of so many bytes, or -1 if the tape ends too early. */
        private int readNumber(int bytes) {
            if (at + bytes > length) {
                refuse(TOO_SHORT, at);
                return -1;
            }
            int number = 0;
            for (int i = 0; i < bytes; i++) {
                number = number << 8 | tape[at + i] & 255;
            }
            at += bytes;
            return number;
        }

        private boolean readHead(Prototype p) {
            boolean outermost = p.around < 0;
            p.parameters = readNumber(1);
            if (p.parameters < 0) {
                return false;
            }
            p.takesMore = readNumber(1);
            if (p.takesMore < 0) {
                return false;
            }
            if (p.takesMore > 1 || outermost && p.takesMore == 0) {
                return refuse(NOT_SO, at - 1);
            }
            p.registers = readNumber(1);
            if (p.registers < 0) {
                return false;
            }
            if (p.registers < 2 || p.registers > 250 || p.registers < p.parameters) {
                return refuse(NOT_SO, at - 1);
            }
            p.upvalues = readNumber(1);
            if (p.upvalues < 0) {
                return false;
            }
            if (p.upvalues > MOST_UPVALUES || outermost && p.upvalues != 1) {
                return refuse(NOT_SO, at - 1);
            }
            return true;
        }

        private boolean readUpvalues(Prototype p) {
            p.upvalueStart = upvalueCount;
            for (int i = 0; i < p.upvalues; i++) {
                int inRegister = readNumber(1);
                if (inRegister < 0) {
                    return false;
                }
                if (p.around >= 0 && inRegister > 1) {
                    return refuse(NOT_SO, at - 1);
                }
                int which = readNumber(1);
                if (which < 0) {
                    return false;
                }
                if (p.around >= 0 && which >= mostOf(prototypes[p.around], inRegister)) {
                    return refuse(NOT_SO, at - 1);
                }
                upvalues[upvalueCount] = inRegister == 1 ? which : -1 - which;
                upvalueCount++;
            }
            return true;
        }

        private static int mostOf(Prototype around, int inRegister) {
            return inRegister == 1 ? around.registers : around.upvalues;
        }

        private boolean readConstants(Prototype p) {
            p.constantStart = constantCount;
            p.constants = readNumber(2);
            if (p.constants < 0) {
                return false;
            }
            for (int i = 0; i < p.constants; i++) {
                int kind = readNumber(1);
                if (kind < 0) {
                    return false;
                }
                if (constantCount + codeCount >= MOST_PARTS) {
                    return refuse(TOO_LARGE, at - 1);
                }
                if (kind > STRING) {
                    return refuse(NOT_SO, at - 1);
                }
                if (!readConstant(kind)) {
                    return false;
                }
            }
            return true;
        }

        private boolean readConstant(int kind) {
            long value = 0;
            if (kind == INTEGER) {
                if (at + 8 > length) {
                    return refuse(TOO_SHORT, at);
                }
                value = (long) readNumber(4) << 32;
                value |= readNumber(4) & 0xFFFF_FFFFL;
            } else if (kind == STRING) {
                int size = readNumber(2);
                if (size < 0) {
                    return false;
                }
                if (at + size > length) {
                    return refuse(TOO_SHORT, at);
                }
                value = (long) at << 16 | size;
                at += size;
            }
            constantKinds[constantCount] = (byte) kind;
            constantValues[constantCount] = value;
            constantCount++;
            return true;
        }

        private boolean readCode(Prototype p) {
            p.codeStart = codeCount;
            p.instructions = readNumber(2);
            if (p.instructions < 0) {
                return false;
            }
            if (p.instructions == 0) {
                return refuse(NOT_SO, at - 2);
            }
            p.codePlace = at;
            for (int i = 0; i < p.instructions; i++) {
                if (at + 4 > length) {
                    return refuse(TOO_SHORT, at);
                }
                if (constantCount + codeCount >= MOST_PARTS) {
                    return refuse(TOO_LARGE, at);
                }
                code[codeCount] = readNumber(4);
                codeCount++;
            }
            return true;
        }

        boolean checkAll() {
            listChildren();
            for (int n = 0; n < prototypeCount; n++) {
                Prototype p = prototypes[n];
                for (int pc = 0; pc < p.instructions; pc++) {
                    if (!isWellFormed(p, pc)) {
                        return refuse(ILL_FORMED, p.codePlace + 4 * pc);
                    }
                }
            }
            return true;
        }

        private void listChildren() {
            int start = 0;
            for (int n = 0; n < prototypeCount; n++) {
                prototypes[n].childStart = start;
                start += prototypes[n].children;
                prototypes[n].children = 0;
            }
            for (int n = 1; n < prototypeCount; n++) {
                Prototype around = prototypes[prototypes[n].around];
                children[around.childStart + around.children] = n;
                around.children++;
            }
        }

        private boolean isWellFormed(Prototype p, int pc) {
            int instruction = code[p.codeStart + pc];
            return (instruction & 63) < OPERATIONS && namesWhatIsThere(p, instruction)
                && goesWhereItMay(p, pc, instruction) && keepsOpenRows(p, pc, instruction);
        }

        private static boolean namesWhatIsThere(Prototype p, int instruction) {
            int operation = instruction & 63;
            int a = instruction >>> 6 & 255;
            int b = instruction >>> 23;
            int c = instruction >>> 14 & 511;
            if (!isThere(A_NAMES.charAt(operation), a, p) || !isThere(B_NAMES.charAt(operation), b, p)
                || !isThere(C_NAMES.charAt(operation), c, p) || lastOfRow(operation, a, b, c) >= p.registers) {
                return false;
            }
            switch (operation) {
                case 1: return instruction >>> 14 < p.constants;
                case 29: return b < c;
                case 41: return c > 0;
                case SET_LIST: return c > 0;
                case CLOSURE: return instruction >>> 14 < p.children;
                default: return true;
            }
        }

        private static boolean isThere(char name, int x, Prototype p) {
            if (name == 'K') {
                return x < FIRST_CONSTANT ? x < p.registers : x - FIRST_CONSTANT < p.constants;
            }
            return name == 'R' && x < p.registers || name == 'U' && x < p.upvalues || name == 'T' && x <= 1 || name == '-';
        }

        /** The last register of the rows that an operation names; what it has none of gives one that is there. */
        private static int lastOfRow(int operation, int a, int b, int c) {
            switch (operation) {
                case 4: return a + b;
                case 12: return a + 1;
                case JUMP: return a - 1;
                case CALL: return Math.max(a + b - 1, a + c - 2);
                case TAIL_CALL: return a + b - 1;
                case RETURN: return a + b - 2;
                case 39: return a + 3;
                case 40: return a + 3;
                case 41: return a + 2 + c;
                case 42: return a + 1;
                case SET_LIST: return a + b;
                case MORE_ARGUMENTS: return a + b - 2;
                default: return 0;
            }
        }

        private boolean goesWhereItMay(Prototype p, int pc, int instruction) {
            int operation = instruction & 63;
            boolean jumps = operation == JUMP || operation == 39 || operation == 40 || operation == 42;
            boolean tests = operation > JUMP && operation < CALL;
            boolean skips = tests || operation == 3 && (instruction >>> 14 & 511) != 0;
            boolean goesOn = operation != JUMP && operation != TAIL_CALL && operation != RETURN;
            if (goesOn && pc + 1 >= p.instructions) {
                return false;
            }
            if (tests && (code[p.codeStart + pc + 1] & 63) != JUMP) {
                return false;
            }
            if (skips && !mayBeReached(p, pc + 2)) {
                return false;
            }
            return !jumps || mayBeReached(p, pc + 1 + (instruction >>> 14) - JUMP_ZERO);
        }

        private boolean mayBeReached(Prototype p, int pc) {
            return pc >= 0 && pc < p.instructions && !usesOpenRow(code[p.codeStart + pc]);
        }

        private static boolean usesOpenRow(int instruction) {
            int operation = instruction & 63;
            return instruction >>> 23 == 0
                && (operation == CALL || operation == TAIL_CALL || operation == RETURN || operation == SET_LIST);
        }

        private static boolean opensRow(int instruction) {
            int operation = instruction & 63;
            return operation == CALL && (instruction >>> 14 & 511) == 0
                || operation == MORE_ARGUMENTS && instruction >>> 23 == 0;
        }

        private boolean keepsOpenRows(Prototype p, int pc, int instruction) {
            if (usesOpenRow(instruction) && (pc == 0 || !opensRow(code[p.codeStart + pc - 1]))) {
                return false;
            }
            if (!opensRow(instruction)) {
                return true;
            }
            int user = code[p.codeStart + pc + 1];
            int first = (user >>> 6 & 255) + ((user & 63) == RETURN ? 0 : 1);
            return usesOpenRow(user) && first <= (instruction >>> 6 & 255);
        }
    }

    /** A row of values: arguments, results, an open row. */
    private static final class Row {
        final byte[] kinds = new byte[ROW_ROOM];
        final long[] values = new long[ROW_ROOM];
        int size;

        void clear() {
            size = 0;
        }

        void add(int kind, long value) {
            if (size < ROW_ROOM) {
                kinds[size] = (byte) kind;
                values[size] = value;
                size++;
            }
        }

        void addFirst(int kind, long value) {
            if (size < ROW_ROOM) {
                System.arraycopy(kinds, 0, kinds, 1, size);
                System.arraycopy(values, 0, values, 1, size);
                kinds[0] = (byte) kind;
                values[0] = value;
                size++;
            }
        }

        void dropFirst(int many) {
            int left = Math.max(0, size - many);
            System.arraycopy(kinds, size - left, kinds, 0, left);
            System.arraycopy(values, size - left, values, 0, left);
            size = left;
        }

        void takeAll(Row from) {
            System.arraycopy(from.kinds, 0, kinds, 0, from.size);
            System.arraycopy(from.values, 0, values, 0, from.size);
            size = from.size;
            from.size = 0;
        }

        int kindAt(int i) {
            return i < size ? kinds[i] : NIL;
        }

        long valueAt(int i) {
            return i < size ? values[i] : 0;
        }
    }

    /** The place of one existing object, used again when that has gone. */
    private static final class Thing {
        int type;
        int number;
        boolean reached;
        /** Strings of the chunk and of the machine itself never go. */
        boolean stays;
        /**
         * Closure: its prototype. Wrapper: its coroutine's slot. Coroutine: its place in the heap's row.
         * Variable: the place of the coroutine whose register it is, or -1 when it is closed.
         */
        int link;
        /** Variable: the next open one below. String: the next one of its bucket. */
        int next;
        /** Variable: its register. String: its hash. */
        int place;
        int cellKind;
        long cellValue;
        byte[] bytes;
        int[] upvalues;
        int start;
        int room;
        int entries;
        int metatable;
        /** Keys 1 up to this one have values; there may be more. */
        int border;
    }

    /** All objects, strings among them, and the collector. */
    private static final class Heap {
        final Thing[] things = new Thing[MOST_LIMIT];
        /** How many slots have been in use since load; those of them that are free again. */
        private int slots;
        private final int[] free = new int[MOST_LIMIT];
        private int freeCount;
        final int[] tally = new int[TALLIES];
        final int[] names = new int[ALL_NAMES];
        final Coroutine[] coroutines = new Coroutine[MOST_COROUTINES];
        private final int[] buckets = new int[BUCKETS];
        /** Where the bytes of a string are put together before it is looked for. */
        byte[] work = new byte[1_024];
        int workSize;
        private final int[] waiting = new int[MOST_LIMIT];
        private int waitingCount;
        int most = FIRST_LIMIT;
        boolean loading;
        Tables tables;
        Machine machine;

        void restart() {
            slots = 0;
            freeCount = 0;
            Arrays.fill(tally, 0, ALL_MADE, 0);
            Arrays.fill(buckets, -1);
            for (int i = 0; i < MOST_COROUTINES; i++) {
                if (coroutines[i] != null) {
                    coroutines[i].slot = -1;
                }
            }
        }

        /** The slot of a new object, or the ERROR that forbids it, negated. */
        int make(int type, int upvalueCount, int byteCount) {
            if (tally[ALL_MADE] >= MOST_OBJECTS_IN_ALL || tally[ALL_ROOM] + upvalueCount > MOST_ROOM_IN_ALL
                || tally[ALL_BYTES] + byteCount > MOST_BYTES_IN_ALL) {
                return -ERROR_MADE;
            }
            if (isFull(type) && !loading) {
                clean();
            }
            if (isFull(type)) {
                return -ERROR_FULL;
            }
            int slot = takeSlot();
            Thing thing = things[slot];
            thing.type = type;
            thing.number = tally[MADE];
            thing.stays = false;
            tally[EXISTING]++;
            tally[MADE]++;
            tally[ALL_MADE]++;
            tally[ROOM_MADE] += upvalueCount;
            tally[ALL_ROOM] += upvalueCount;
            tally[BYTES_MADE] += byteCount;
            tally[ALL_BYTES] += byteCount;
            return slot;
        }

        private int takeSlot() {
            if (freeCount > 0) {
                freeCount--;
                return free[freeCount];
            }
            int slot = slots;
            slots++;
            if (things[slot] == null) {
                things[slot] = new Thing();
            }
            return slot;
        }

        private boolean isFull(int type) {
            return tally[EXISTING] >= most || type == COROUTINE && tally[COROUTINES] >= MOST_COROUTINES;
        }

        int makeClosedVariable(int kind, long value) {
            int slot = make(VARIABLE, 0, 0);
            if (slot >= 0) {
                things[slot].link = -1;
                things[slot].cellKind = kind;
                things[slot].cellValue = value;
            }
            return slot;
        }

        int makeClosure(int prototype, int upvalueCount) {
            int slot = make(FUNCTION, upvalueCount, 0);
            if (slot >= 0) {
                Thing closure = things[slot];
                closure.link = prototype;
                if (closure.upvalues == null || closure.upvalues.length < upvalueCount) {
                    closure.upvalues = new int[upvalueCount];
                }
            }
            return slot;
        }

        int makeCoroutine(long function) {
            int slot = make(COROUTINE, 0, 0);
            if (slot < 0) {
                return slot;
            }
            int index = 0;
            while (index < MOST_COROUTINES - 1 && coroutines[index] != null && coroutines[index].slot >= 0) {
                index++;
            }
            if (coroutines[index] == null) {
                coroutines[index] = new Coroutine(index);
            }
            coroutines[index].restart(slot, function);
            things[slot].link = index;
            tally[COROUTINES]++;
            return slot;
        }

        long numberOf(long value) {
            return value < 0 ? -1 - value : things[(int) value].number;
        }

        /** The string of these bytes, made if there is none; or an ERROR, negated. */
        int intern(byte[] source, int from, int size) {
            if (size > MOST_BYTES_IN_ALL) {
                return -ERROR_MADE;
            }
            int hash = size;
            for (int i = 0; i < size; i++) {
                hash = hash * 31 + source[from + i];
            }
            int bucket = (hash ^ hash >>> 15) & BUCKETS - 1;
            int slot = buckets[bucket];
            for (int n = 0; slot >= 0 && n < MOST_LIMIT; n++) {
                if (things[slot].place == hash && isSame(things[slot].bytes, source, from, size)) {
                    return slot;
                }
                slot = things[slot].next;
            }
            slot = make(STRING, 0, size);
            if (slot >= 0) {
                Thing string = things[slot];
                string.bytes = Arrays.copyOfRange(source, from, from + size);
                string.place = hash;
                string.next = buckets[bucket];
                buckets[bucket] = slot;
            }
            return slot;
        }

        private static boolean isSame(byte[] bytes, byte[] source, int from, int size) {
            if (bytes.length != size) {
                return false;
            }
            for (int i = 0; i < size; i++) {
                if (bytes[i] != source[from + i]) {
                    return false;
                }
            }
            return true;
        }

        /** What goes beyond any string that can be made is only counted. */
        void putBytes(byte[] bytes) {
            int size = workSize + bytes.length;
            if (size <= MOST_BYTES_IN_ALL) {
                if (size > work.length) {
                    work = Arrays.copyOf(work, Math.min(MOST_BYTES_IN_ALL, Math.max(size, 2 * work.length)));
                }
                System.arraycopy(bytes, 0, work, workSize, bytes.length);
            }
            workSize = size;
        }

        void putByte(int b) {
            if (workSize == work.length && workSize < MOST_BYTES_IN_ALL) {
                work = Arrays.copyOf(work, Math.min(MOST_BYTES_IN_ALL, 2 * work.length));
            }
            if (workSize < work.length) {
                work[workSize] = (byte) b;
            }
            workSize++;
        }

        void putText(String text) {
            for (int i = 0; i < text.length(); i++) {
                putByte(text.charAt(i));
            }
        }

        void putDecimal(long number) {
            if (number < 0) {
                putByte('-');
            }
            long unit = 1;
            while (unit < 1_000_000_000_000_000_000L && number / unit / 10 != 0) {
                unit *= 10;
            }
            while (unit > 0) {
                putByte('0' + (int) Math.abs(number / unit % 10));
                unit /= 10;
            }
        }

        int variableKind(int slot) {
            Thing v = things[slot];
            return v.link < 0 ? v.cellKind : coroutines[v.link].kinds[v.place];
        }

        long variableValue(int slot) {
            Thing v = things[slot];
            return v.link < 0 ? v.cellValue : coroutines[v.link].values[v.place];
        }

        void setVariable(int slot, int kind, long value) {
            Thing v = things[slot];
            if (v.link < 0) {
                v.cellKind = kind;
                v.cellValue = value;
            } else {
                coroutines[v.link].kinds[v.place] = (byte) kind;
                coroutines[v.link].values[v.place] = value;
            }
        }

        /** The open variable of a register, made if there is none; or an ERROR, negated. */
        int openVariable(Coroutine owner, int register) {
            int above = -1;
            int slot = owner.newestOpen;
            for (int n = 0; slot >= 0 && things[slot].place > register && n < MOST_REGISTERS; n++) {
                above = slot;
                slot = things[slot].next;
            }
            if (slot >= 0 && things[slot].place == register) {
                return slot;
            }
            int made = make(VARIABLE, 0, 0);
            if (made < 0) {
                return made;
            }
            things[made].link = owner.index;
            things[made].place = register;
            things[made].next = slot;
            if (above < 0) {
                owner.newestOpen = made;
            } else {
                things[above].next = made;
            }
            return made;
        }

        void closeFrom(Coroutine owner, int register) {
            int slot = owner.newestOpen;
            for (int n = 0; slot >= 0 && things[slot].place >= register && n < MOST_REGISTERS; n++) {
                Thing v = things[slot];
                v.cellKind = owner.kinds[v.place];
                v.cellValue = owner.values[v.place];
                v.link = -1;
                slot = v.next;
            }
            owner.newestOpen = slot;
        }

        /** COLLECTION. */
        void clean() {
            tally[COLLECTIONS]++;
            for (int slot = 0; slot < slots; slot++) {
                things[slot].reached = things[slot].stays;
            }
            waitingCount = 0;
            reach(TABLE, machine.globals);
            Coroutine runner = machine.current;
            for (int n = 0; n < MOST_COROUTINES && runner.resumer >= 0; n++) {
                reach(COROUTINE, runner.slot);
                runner = coroutines[runner.resumer];
            }
            reach(COROUTINE, runner.slot);
            reachRow(machine.last.kinds, machine.last.values, 0, machine.last.size);
            reachRow(machine.open.kinds, machine.open.values, 0, machine.open.size);
            reachRow(machine.args.kinds, machine.args.values, 0, machine.args.size);
            for (int n = 0; waitingCount > 0 && n < MOST_LIMIT; n++) {
                waitingCount--;
                Thing thing = things[waiting[waitingCount]];
                if (thing.type == COROUTINE) {
                    reachFromCoroutine(coroutines[thing.link]);
                } else {
                    reachFrom(thing);
                }
            }
            sweep();
        }

        private void reach(int kind, long value) {
            if (kind < STRING || value < 0) {
                return;
            }
            int slot = (int) value;
            if (!things[slot].reached) {
                things[slot].reached = true;
                if (kind != STRING) {
                    waiting[waitingCount] = slot;
                    waitingCount++;
                }
            }
        }

        private void reachRow(byte[] kinds, long[] values, int from, int to) {
            for (int i = from; i < to; i++) {
                reach(kinds[i], values[i]);
            }
        }

        private void reachFrom(Thing thing) {
            switch (thing.type) {
                case TABLE:
                    reach(TABLE, thing.metatable);
                    for (int i = thing.start; i < thing.start + thing.entries; i++) {
                        reach(tables.keyKinds[i], tables.keys[i]);
                        reach(tables.valueKinds[i], tables.values[i]);
                    }
                    break;
                case FUNCTION:
                    int upvalueCount = machine.chunk.prototypes[thing.link].upvalues;
                    for (int i = 0; i < upvalueCount; i++) {
                        reach(VARIABLE, thing.upvalues[i]);
                    }
                    break;
                case WRAPPER:
                    reach(COROUTINE, thing.link);
                    break;
                default:
                    if (thing.link < 0) {
                        reach(thing.cellKind, thing.cellValue);
                    } else {
                        Coroutine owner = coroutines[thing.link];
                        reach(owner.kinds[thing.place], owner.values[thing.place]);
                    }
                    break;
            }
        }

        private void reachFromCoroutine(Coroutine c) {
            reach(FUNCTION, c.function);
            for (int i = 0; i < c.used; i++) {
                reach(c.kinds[i], c.values[i]);
            }
            for (int i = 0; i < c.depth; i++) {
                reach(FUNCTION, c.frames[i].function);
                reach(c.frames[i].joinedKind, c.frames[i].joinedValue);
            }
            int variable = c.newestOpen;
            for (int n = 0; variable >= 0 && n < MOST_REGISTERS; n++) {
                reach(VARIABLE, variable);
                variable = things[variable].next;
            }
        }

        private void sweep() {
            for (int slot = 0; slot < slots; slot++) {
                Thing thing = things[slot];
                if (thing.type != FREE && !thing.reached) {
                    if (thing.type == STRING) {
                        dropFromBucket(slot);
                    } else if (thing.type == TABLE) {
                        tables.release(thing);
                    } else if (thing.type == COROUTINE) {
                        // closures that are still reached may share its variables
                        closeFrom(coroutines[thing.link], 0);
                        coroutines[thing.link].slot = -1;
                        tally[COROUTINES]--;
                    }
                    thing.type = FREE;
                    free[freeCount] = slot;
                    freeCount++;
                    tally[EXISTING]--;
                }
            }
        }

        private void dropFromBucket(int slot) {
            int hash = things[slot].place;
            int bucket = (hash ^ hash >>> 15) & BUCKETS - 1;
            int before = buckets[bucket];
            if (before == slot) {
                buckets[bucket] = things[slot].next;
                return;
            }
            for (int n = 0; things[before].next != slot && n < MOST_LIMIT; n++) {
                before = things[before].next;
            }
            things[before].next = things[slot].next;
        }
    }

    /** The rooms of all tables, each a piece of one pool. */
    private static final class Tables {
        final byte[] keyKinds = new byte[POOL];
        final long[] keys = new long[POOL];
        final byte[] valueKinds = new byte[POOL];
        final long[] values = new long[POOL];
        /** First entry of each bucket and next entry of the same, counted from the room's start, or -1. */
        private final int[] heads = new int[POOL];
        private final int[] chain = new int[POOL];
        /** At a room's start: the slot of its table, or its size negated when it is free. */
        private final int[] owners = new int[POOL];
        private int top;
        private final Heap heap;

        Tables(Heap heap) {
            this.heap = heap;
        }

        void restart() {
            top = 0;
        }

        int make() {
            int slot = heap.make(TABLE, 0, 0);
            if (slot >= 0) {
                Thing table = heap.things[slot];
                table.start = 0;
                table.room = 0;
                table.entries = 0;
                table.metatable = -1;
                table.border = 0;
            }
            return slot;
        }

        private static int spread(int kind, long key, int room) {
            return (int) ((key * 8 + kind) * 0x9E37_79B9_7F4A_7C15L >>> 40) & room - 1;
        }

        /** Where the pool has the entry of a key, or -1. */
        int find(int slot, int kind, long key) {
            Thing table = heap.things[slot];
            if (table.room == 0) {
                return -1;
            }
            int entry = heads[table.start + spread(kind, key, table.room)];
            for (int n = 0; entry >= 0 && n < table.room; n++) {
                int at = table.start + entry;
                if (keys[at] == key && keyKinds[at] == kind) {
                    return at;
                }
                entry = chain[at];
            }
            return -1;
        }

        /** Where the metatable of a value has an event's handler, or -1. */
        int findEvent(int kind, long value, int event) {
            if (kind != TABLE) {
                return -1;
            }
            int metatable = heap.things[(int) value].metatable;
            if (metatable < 0) {
                return -1;
            }
            int at = find(metatable, STRING, heap.names[EVENTS + event]);
            return at >= 0 && valueKinds[at] != NIL ? at : -1;
        }

        int border(int slot) {
            Thing table = heap.things[slot];
            for (int n = table.border; n < table.room; n++) {
                int at = find(slot, INTEGER, n + 1);
                if (at < 0 || valueKinds[at] == NIL) {
                    break;
                }
                table.border = n + 1;
            }
            return table.border;
        }

        /** Writes without metamethods: 0, or the ERROR. */
        int write(int slot, int keyKind, long key, int kind, long value) {
            if (keyKind == NIL) {
                return ERROR_KEY;
            }
            Thing table = heap.things[slot];
            int at = find(slot, keyKind, key);
            if (at >= 0) {
                valueKinds[at] = (byte) kind;
                values[at] = value;
                if (kind == NIL && keyKind == INTEGER && key > 0 && key <= table.border) {
                    table.border = (int) key - 1;
                }
                return 0;
            }
            if (kind == NIL) {
                return 0;
            }
            int error = table.entries == table.room ? makeRoom(slot) : 0;
            if (error == 0) {
                append(table, keyKind, key, kind, value);
            }
            return error;
        }

        private void append(Thing table, int keyKind, long key, int kind, long value) {
            int at = table.start + table.entries;
            int head = table.start + spread(keyKind, key, table.room);
            keyKinds[at] = (byte) keyKind;
            keys[at] = key;
            valueKinds[at] = (byte) kind;
            values[at] = value;
            chain[at] = heads[head];
            heads[head] = table.entries;
            table.entries++;
        }

        private int makeRoom(int slot) {
            Thing table = heap.things[slot];
            dropDead(table);
            if (table.room > 0 && table.entries * 2 <= table.room) {
                return 0;
            }
            int[] tally = heap.tally;
            int room = table.room == 0 ? 4 : table.room * 2;
            if (tally[ALL_ROOM] + room > MOST_ROOM_IN_ALL) {
                return ERROR_MADE;
            }
            if (tally[ROOMS] + room > MOST_ROOMS && !heap.loading) {
                heap.clean();
            }
            if (tally[ROOMS] + room > MOST_ROOMS) {
                return ERROR_FULL;
            }
            tally[ROOMS] += room - table.room;
            tally[ROOM_MADE] += room;
            tally[ALL_ROOM] += room;
            moveTo(slot, room);
            return 0;
        }

        private void dropDead(Thing table) {
            int count = table.entries;
            int end = table.start + table.room;
            Arrays.fill(heads, table.start, end, -1);
            table.entries = 0;
            for (int i = 0; i < count; i++) {
                int from = table.start + i;
                if (valueKinds[from] != NIL) {
                    append(table, keyKinds[from], keys[from], valueKinds[from], values[from]);
                }
            }
        }

        private void moveTo(int slot, int room) {
            if (top + room > POOL) {
                closeUp();
            }
            Thing table = heap.things[slot];
            int from = table.start;
            int count = table.entries;
            if (table.room > 0) {
                owners[from] = -table.room;
            }
            table.start = top;
            table.room = room;
            table.entries = 0;
            owners[top] = slot;
            Arrays.fill(heads, top, top + room, -1);
            top += room;
            for (int i = from; i < from + count; i++) {
                append(table, keyKinds[i], keys[i], valueKinds[i], values[i]);
            }
        }

        void release(Thing table) {
            if (table.room > 0) {
                owners[table.start] = -table.room;
                heap.tally[ROOMS] -= table.room;
            }
        }

        /** Moves all rooms to the pool's beginning, in their order. */
        private void closeUp() {
            int to = 0;
            int from = 0;
            for (int n = 0; n < POOL && from < top; n++) {
                int owner = owners[from];
                int room = owner < 0 ? -owner : heap.things[owner].room;
                if (owner >= 0) {
                    System.arraycopy(keyKinds, from, keyKinds, to, room);
                    System.arraycopy(keys, from, keys, to, room);
                    System.arraycopy(valueKinds, from, valueKinds, to, room);
                    System.arraycopy(values, from, values, to, room);
                    System.arraycopy(heads, from, heads, to, room);
                    System.arraycopy(chain, from, chain, to, room);
                    owners[to] = owner;
                    heap.things[owner].start = to;
                    to += room;
                }
                from += room;
            }
            top = to;
        }
    }

    /** A call under way: of a closure, or of a built in function that waits. */
    private static final class Frame {
        int what;
        /** Slot of the closure or wrapper, or -1. */
        int function;
        Prototype prototype;
        int base;
        int extra;
        int pc;
        /** What a joining has in hand, and which register is next. */
        int joinedKind;
        long joinedValue;
        int joinAt;
    }

    /** Frames and their registers, one behind the other, each with its further arguments behind. */
    private static final class Coroutine {
        final byte[] kinds = new byte[MOST_REGISTERS];
        final long[] values = new long[MOST_REGISTERS];
        final Frame[] frames = new Frame[MOST_FRAMES];
        final int index;
        int depth;
        int used;
        int slot;
        int status;
        boolean begun;
        /** What it begins with; no object any more when it has begun. */
        long function;
        int newestOpen;
        /** Place of the one that resumed it, or -1. */
        int resumer;

        Coroutine(int index) {
            this.index = index;
            for (int i = 0; i < MOST_FRAMES; i++) {
                frames[i] = new Frame();
            }
        }

        void restart(int itsSlot, long itsFunction) {
            depth = 0;
            used = 0;
            slot = itsSlot;
            status = SUSPENDED;
            begun = false;
            function = itsFunction;
            newestOpen = -1;
            resumer = -1;
        }

        boolean push(int what, int itsFunction, int registers) {
            if (depth >= MOST_FRAMES || used + registers > MOST_REGISTERS) {
                return false;
            }
            Frame frame = frames[depth];
            frame.what = what;
            frame.function = itsFunction;
            frame.base = used;
            frame.extra = 0;
            frame.pc = 0;
            frame.joinedKind = NIL;
            frame.joinedValue = 0;
            used += registers;
            depth++;
            return true;
        }

        Frame top() {
            return frames[depth - 1];
        }

        void pop() {
            depth--;
            used = frames[depth].base;
        }
    }

    /** What is under way: calls, results, errors, and which coroutine runs. */
    private static final class Machine {
        final Chunk chunk;
        final Heap heap;
        final Tables tables;
        /** In hand of a call until it is entered, or of a built in function while it works. */
        final Row args = new Row();
        final Row results = new Row();
        /** The open row of the running frame, and the register where it begins. */
        final Row open = new Row();
        int openFrom;
        /** What the main coroutine ended with. */
        final Row last = new Row();
        int ended;
        int stepCount;
        int globals;
        Coroutine current;
        int turn;
        int calleeKind;
        long calleeValue;
        private int errorKind;
        private long errorValue;
        private boolean fatal;

        Machine(Chunk chunk, Heap heap, Tables tables) {
            this.chunk = chunk;
            this.heap = heap;
            this.tables = tables;
        }

        /** Makes all that load makes, in its order; false if that is more than may be made. */
        boolean boot() {
            heap.restart();
            tables.restart();
            heap.loading = true;
            args.clear();
            results.clear();
            open.clear();
            last.clear();
            ended = 0;
            stepCount = 0;
            turn = NEXT_STEP;
            globals = tables.make();
            if (globals < 0 || !internNames(BUILT_IN_NAMES, 0) || !internNames(EVENT_NAMES, EVENTS)
                || !internNames(TYPE_AND_STATUS_NAMES, TYPE_NAMES)) {
                return false;
            }
            int variable = heap.makeClosedVariable(TABLE, globals);
            return variable >= 0 && internConstants() && fillGlobals() && beginMain(variable);
        }

        /** The names of a text become the heap's, from the first place on. */
        private boolean internNames(String names, int first) {
            int place = first;
            heap.workSize = 0;
            for (int i = 0; i < names.length() && place < ALL_NAMES; i++) {
                if (names.charAt(i) != ' ') {
                    heap.putByte(names.charAt(i));
                } else {
                    int slot = heap.intern(heap.work, 0, heap.workSize);
                    if (slot < 0) {
                        return false;
                    }
                    heap.things[slot].stays = true;
                    heap.names[place] = slot;
                    place++;
                    heap.workSize = 0;
                }
            }
            return true;
        }

        private boolean internConstants() {
            for (int i = 0; i < chunk.constantCount; i++) {
                if (chunk.constantKinds[i] == STRING) {
                    long where = chunk.constantValues[i];
                    int slot = heap.intern(chunk.tape, (int) (where >>> 16), (int) (where & 0xFFFF));
                    if (slot < 0) {
                        return false;
                    }
                    heap.things[slot].stays = true;
                    chunk.constantValues[i] = slot;
                }
            }
            return true;
        }

        private boolean fillGlobals() {
            for (int i = 0; i < BUILT_IN; i++) {
                if (tables.write(globals, STRING, heap.names[i], FUNCTION, -1 - i) != 0) {
                    return false;
                }
            }
            return true;
        }

        private boolean beginMain(int variable) {
            int closure = heap.makeClosure(0, 1);
            if (closure < 0) {
                return false;
            }
            heap.things[closure].upvalues[0] = variable;
            int slot = heap.makeCoroutine(closure);
            if (slot < 0) {
                return false;
            }
            heap.loading = false;
            current = heap.coroutines[heap.things[slot].link];
            begin(current);
            enterClosure(closure);
            return true;
        }

        private void begin(Coroutine c) {
            c.status = RUNNING;
            c.begun = true;
            c.function = -1;
        }

        void fail(int error) {
            raise(INTEGER, error);
            fatal = error == ERROR_MADE;
        }

        void raise(int kind, long value) {
            errorKind = kind;
            errorValue = value;
            fatal = false;
            turn = RAISE;
        }

        void give(int kind, long value) {
            results.clear();
            results.add(kind, value);
            turn = GIVE;
        }

        /** Calls the value that the pool has there, with two arguments. */
        void callEntry(int at, int kind, long value, int otherKind, long otherValue) {
            calleeKind = tables.valueKinds[at];
            calleeValue = tables.values[at];
            args.clear();
            args.add(kind, value);
            args.add(otherKind, otherValue);
            turn = ENTER;
        }

        /** The callee is called with args. */
        void enter() {
            for (int hops = 1; hops <= MOST_HOPS && calleeKind != FUNCTION; hops++) {
                int at = tables.findEvent(calleeKind, calleeValue, CALL_EVENT);
                if (at < 0) {
                    fail(ERROR_CALL);
                    return;
                }
                if (hops == MOST_HOPS) {
                    fail(ERROR_DEPTH);
                    return;
                }
                args.addFirst(calleeKind, calleeValue);
                calleeKind = tables.valueKinds[at];
                calleeValue = tables.values[at];
            }
            if (args.size > MOST_VALUES) {
                fail(ERROR_NUMBER);
            } else if (calleeValue < 0) {
                turn = PERFORM;
            } else if (heap.things[(int) calleeValue].type == WRAPPER) {
                callWrapper((int) calleeValue);
            } else {
                enterClosure((int) calleeValue);
            }
        }

        private void enterClosure(int closure) {
            Prototype p = chunk.prototypes[heap.things[closure].link];
            Coroutine c = current;
            int extra = p.takesMore == 1 ? Math.max(0, args.size - p.parameters) : 0;
            if (!c.push(LUA_FRAME, closure, p.registers + extra)) {
                fail(ERROR_DEPTH);
                return;
            }
            Frame frame = c.top();
            frame.prototype = p;
            frame.extra = extra;
            int given = Math.min(args.size, p.parameters);
            System.arraycopy(args.kinds, 0, c.kinds, frame.base, given);
            System.arraycopy(args.values, 0, c.values, frame.base, given);
            Arrays.fill(c.kinds, frame.base + given, frame.base + p.registers, (byte) NIL);
            Arrays.fill(c.values, frame.base + given, frame.base + p.registers, 0);
            System.arraycopy(args.kinds, p.parameters, c.kinds, frame.base + p.registers, extra);
            System.arraycopy(args.values, p.parameters, c.values, frame.base + p.registers, extra);
            args.clear();
            turn = NEXT_STEP;
        }

        private void callWrapper(int wrapper) {
            Coroutine c = coroutineOf(heap.things[wrapper].link);
            if (c.status != SUSPENDED) {
                fail(ERROR_STATE);
            } else if (!current.push(WRAP_FRAME, wrapper, 0)) {
                fail(ERROR_DEPTH);
            } else {
                goOnWith(c);
            }
        }

        Coroutine coroutineOf(int slot) {
            return heap.coroutines[heap.things[slot].link];
        }

        /** A suspended coroutine runs, with args, in place of the one that resumes it. */
        void goOnWith(Coroutine c) {
            current.status = NORMAL;
            c.resumer = current.index;
            current = c;
            if (c.begun) {
                c.status = RUNNING;
                results.takeAll(args);
                turn = GIVE;
            } else {
                calleeKind = FUNCTION;
                calleeValue = c.function;
                begin(c);
                turn = ENTER;
            }
        }

        /** The running frame goes, its variables closed. */
        void leave() {
            heap.closeFrom(current, current.top().base);
            current.pop();
        }

        /** The running coroutine's newest frame gets results. */
        void give() {
            if (current.depth == 0) {
                endWithResults();
                return;
            }
            switch (current.top().what) {
                case LUA_FRAME:
                    turn = FINISH;
                    break;
                case PCALL_FRAME:
                    current.pop();
                    giveWithTrue();
                    break;
                default:
                    current.pop();
                    if (results.kindAt(0) == STRING) {
                        give(STRING, results.valueAt(0));
                    } else {
                        fail(ERROR_TYPE);
                    }
                    break;
            }
        }

        private void giveWithTrue() {
            results.addFirst(TRUE, 0);
            if (results.size > MOST_VALUES) {
                fail(ERROR_NUMBER);
            } else {
                turn = GIVE;
            }
        }

        private void endWithResults() {
            if (current.resumer < 0) {
                current.status = DEAD;
                last.takeAll(results);
                ended = 1;
                turn = NEXT_STEP;
            } else {
                handOver(DEAD);
            }
        }

        /** The running coroutine gives results to the one that resumed it. */
        void handOver(int status) {
            if (backToResumer(status) == RESUME_FRAME) {
                giveWithTrue();
            } else {
                turn = GIVE;
            }
        }

        /** What kind of frame has waited for the running coroutine there. */
        private int backToResumer(int status) {
            Coroutine c = current;
            current = heap.coroutines[c.resumer];
            c.status = status;
            c.resumer = -1;
            current.status = RUNNING;
            int what = current.top().what;
            current.pop();
            return what;
        }

        /** The error goes to the nearest pcall of the running coroutine, or ends it. */
        void unwind() {
            args.clear();
            open.clear();
            if (fatal) {
                endAll();
                return;
            }
            Coroutine c = current;
            int kept = c.depth;
            while (kept > 0 && c.frames[kept - 1].what != PCALL_FRAME) {
                kept--;
            }
            if (kept > 0) {
                heap.closeFrom(c, c.frames[kept - 1].base);
                c.depth = kept;
                c.pop();
                giveError();
                return;
            }
            empty(c);
            if (c.resumer < 0) {
                endWithError();
            } else if (backToResumer(DEAD) == RESUME_FRAME) {
                giveError();
            }
        }

        private void giveError() {
            give(FALSE, 0);
            results.add(errorKind, errorValue);
        }

        private void empty(Coroutine c) {
            heap.closeFrom(c, 0);
            c.depth = 0;
            c.used = 0;
        }

        private void endWithError() {
            current.status = DEAD;
            last.clear();
            last.add(errorKind, errorValue);
            ended = 2;
            turn = NEXT_STEP;
        }

        private void endAll() {
            for (int n = 0; n < MOST_COROUTINES && current.resumer >= 0; n++) {
                empty(current);
                Coroutine c = current;
                current = heap.coroutines[c.resumer];
                c.status = DEAD;
                c.resumer = -1;
            }
            empty(current);
            endWithError();
        }
    }

    /** Does the instructions; operations bear the document's numbers. */
    private static final class Steps {
        private final Machine machine;
        private final Heap heap;
        private final Tables tables;
        private final Chunk chunk;
        private Coroutine coroutine;
        private Frame frame;
        private Prototype prototype;
        private int base;
        private int operation;
        private int a;
        private int b;
        private int c;
        private int bx;

        Steps(Machine machine) {
            this.machine = machine;
            heap = machine.heap;
            tables = machine.tables;
            chunk = machine.chunk;
        }

        void step() {
            machine.stepCount++;
            machine.current.top().pc++;
            decode();
            switch (operation) {
                case 8: write(heap.variableKind(upvalue(a)), heap.variableValue(upvalue(a))); break;
                case 10: write(kindOf(a), valueOf(a)); break;
                case 11: newTable(); break;
                case 43: setList(); break;
                case 44: makeClosure(); break;
                default:
                    if (operation <= 12) {
                        move();
                    } else if (operation <= 24) {
                        reckon();
                    } else if (operation <= 29) {
                        reckonOne();
                    } else if (operation <= 35) {
                        branch();
                    } else if (operation <= 38 || operation == 41) {
                        callOrReturn();
                    } else {
                        loopOrTake();
                    }
                    break;
            }
        }

        /** The instruction under way is the one before the frame's next. */
        private void decode() {
            coroutine = machine.current;
            frame = coroutine.top();
            prototype = frame.prototype;
            base = frame.base;
            int instruction = chunk.code[prototype.codeStart + frame.pc - 1];
            operation = instruction & 63;
            a = instruction >>> 6 & 255;
            b = instruction >>> 23;
            c = instruction >>> 14 & 511;
            bx = instruction >>> 14;
        }

        private void set(int register, int kind, long value) {
            coroutine.kinds[base + register] = (byte) kind;
            coroutine.values[base + register] = value;
        }

        /** Kind of a register or constant. */
        private int kindOf(int x) {
            return x < FIRST_CONSTANT ? coroutine.kinds[base + x]
                : chunk.constantKinds[prototype.constantStart + x - FIRST_CONSTANT];
        }

        private long valueOf(int x) {
            return x < FIRST_CONSTANT ? coroutine.values[base + x]
                : chunk.constantValues[prototype.constantStart + x - FIRST_CONSTANT];
        }

        private boolean isTrue(int x) {
            return kindOf(x) > FALSE;
        }

        private int upvalue(int x) {
            return heap.things[frame.function].upvalues[x];
        }

        private void jump() {
            frame.pc += bx - JUMP_ZERO;
        }

        private void move() {
            switch (operation) {
                case 0:
                    set(a, kindOf(b), valueOf(b));
                    break;
                case 1:
                    set(a, chunk.constantKinds[prototype.constantStart + bx], chunk.constantValues[prototype.constantStart + bx]);
                    break;
                case 3:
                    set(a, b != 0 ? TRUE : FALSE, 0);
                    frame.pc += c != 0 ? 1 : 0;
                    break;
                case 4:
                    for (int i = a; i <= a + b; i++) {
                        set(i, NIL, 0);
                    }
                    break;
                case 5:
                    set(a, heap.variableKind(upvalue(b)), heap.variableValue(upvalue(b)));
                    break;
                case 6:
                    read(heap.variableKind(upvalue(b)), heap.variableValue(upvalue(b)), kindOf(c), valueOf(c));
                    break;
                case 7:
                    read(kindOf(b), valueOf(b), kindOf(c), valueOf(c));
                    break;
                case 9:
                    heap.setVariable(upvalue(b), kindOf(a), valueOf(a));
                    break;
                default:
                    int kind = kindOf(b);
                    long value = valueOf(b);
                    set(a + 1, kind, value);
                    read(kind, value, kindOf(c), valueOf(c));
                    break;
            }
        }

        private void newTable() {
            int slot = tables.make();
            if (slot < 0) {
                machine.fail(-slot);
            } else {
                set(a, TABLE, slot);
            }
        }

        /** R(A) = what is there at a key. */
        private void read(int kind, long value, int keyKind, long key) {
            int whoseKind = kind;
            long whose = value;
            for (int hops = 0; hops < MOST_HOPS; hops++) {
                if (whoseKind != TABLE) {
                    machine.fail(ERROR_TABLE);
                    return;
                }
                int at = tables.find((int) whose, keyKind, key);
                if (at >= 0 && tables.valueKinds[at] != NIL) {
                    set(a, tables.valueKinds[at], tables.values[at]);
                    return;
                }
                int handler = tables.findEvent(whoseKind, whose, INDEX_EVENT);
                if (handler < 0) {
                    set(a, NIL, 0);
                    return;
                }
                if (tables.valueKinds[handler] == FUNCTION) {
                    machine.callEntry(handler, whoseKind, whose, keyKind, key);
                    return;
                }
                whoseKind = tables.valueKinds[handler];
                whose = tables.values[handler];
            }
            machine.fail(ERROR_DEPTH);
        }

        /** A table's RK(B) = RK(C). */
        private void write(int kind, long value) {
            int whoseKind = kind;
            long whose = value;
            for (int hops = 0; hops < MOST_HOPS; hops++) {
                if (whoseKind != TABLE) {
                    machine.fail(ERROR_TABLE);
                    return;
                }
                int at = tables.find((int) whose, kindOf(b), valueOf(b));
                int handler = at >= 0 && tables.valueKinds[at] != NIL ? -1
                    : tables.findEvent(whoseKind, whose, NEWINDEX_EVENT);
                if (handler < 0) {
                    int error = tables.write((int) whose, kindOf(b), valueOf(b), kindOf(c), valueOf(c));
                    if (error != 0) {
                        machine.fail(error);
                    }
                    return;
                }
                if (tables.valueKinds[handler] == FUNCTION) {
                    machine.callEntry(handler, whoseKind, whose, kindOf(b), valueOf(b));
                    machine.args.add(kindOf(c), valueOf(c));
                    return;
                }
                whoseKind = tables.valueKinds[handler];
                whose = tables.values[handler];
            }
            machine.fail(ERROR_DEPTH);
        }

        private void reckon() {
            if (kindOf(b) != INTEGER || kindOf(c) != INTEGER) {
                int event = operation <= 16 ? operation - 10 : operation - 12;
                if (!callsEither(event, kindOf(b), valueOf(b), kindOf(c), valueOf(c))) {
                    machine.fail(ERROR_TYPE);
                }
                return;
            }
            long x = valueOf(b);
            long y = valueOf(c);
            if (y == 0 && (operation == 16 || operation == 19)) {
                machine.fail(ERROR_ZERO);
            } else {
                set(a, INTEGER, reckoned(x, y));
            }
        }

        private long reckoned(long x, long y) {
            switch (operation) {
                case 13: return x + y;
                case 14: return x - y;
                case 15: return x * y;
                case 16: return y == 0 ? 0 : Math.floorMod(x, y);
                case 19: return y == 0 ? 0 : Math.floorDiv(x, y);
                case 20: return x & y;
                case 21: return x | y;
                case 22: return x ^ y;
                case 23: return shifted(x, y);
                default: return shifted(x, -y);
            }
        }

        private static long shifted(long x, long left) {
            if (left <= -64 || left >= 64) {
                return 0;
            }
            return left >= 0 ? x << left : x >>> -left;
        }

        /** The first of two values that has an event: its handler is called with both. False if none has it. */
        private boolean callsEither(int event, int kind, long value, int otherKind, long otherValue) {
            int at = tables.findEvent(kind, value, event);
            if (at < 0) {
                at = tables.findEvent(otherKind, otherValue, event);
            }
            if (at >= 0) {
                machine.callEntry(at, kind, value, otherKind, otherValue);
            }
            return at >= 0;
        }

        private void reckonOne() {
            switch (operation) {
                case 27:
                    set(a, isTrue(b) ? FALSE : TRUE, 0);
                    break;
                case 28:
                    measure();
                    break;
                case 29:
                    frame.joinedKind = kindOf(c);
                    frame.joinedValue = valueOf(c);
                    frame.joinAt = c - 1;
                    machine.turn = JOIN;
                    break;
                default:
                    if (kindOf(b) == INTEGER) {
                        set(a, INTEGER, operation == 25 ? -valueOf(b) : ~valueOf(b));
                    } else if (!callsEither(operation - 12, kindOf(b), valueOf(b), kindOf(b), valueOf(b))) {
                        machine.fail(ERROR_TYPE);
                    }
                    break;
            }
        }

        private void measure() {
            int kind = kindOf(b);
            long value = valueOf(b);
            int handler = tables.findEvent(kind, value, LEN_EVENT);
            if (kind == STRING) {
                set(a, INTEGER, heap.things[(int) value].bytes.length);
            } else if (kind != TABLE) {
                machine.fail(ERROR_TABLE);
            } else if (handler < 0) {
                set(a, INTEGER, tables.border((int) value));
            } else {
                machine.callEntry(handler, kind, value, NIL, 0);
                machine.args.size = 1;
            }
        }

        /** Goes on with a 29, from the right. */
        void joinOn() {
            decode();
            for (int at = frame.joinAt; at >= b; at--) {
                frame.joinAt = at - 1;
                if (!isText(kindOf(at)) || !isText(frame.joinedKind)) {
                    if (!callsEither(CONCAT_EVENT, kindOf(at), valueOf(at), frame.joinedKind, frame.joinedValue)) {
                        machine.fail(ERROR_TYPE);
                    }
                    forgetJoined();
                    return;
                }
                int slot = joined(kindOf(at), valueOf(at));
                if (slot < 0) {
                    machine.fail(-slot);
                    return;
                }
                frame.joinedKind = STRING;
                frame.joinedValue = slot;
            }
            set(a, frame.joinedKind, frame.joinedValue);
            forgetJoined();
            machine.turn = NEXT_STEP;
        }

        /** What has been handed on must not be kept from the collector. */
        private void forgetJoined() {
            frame.joinedKind = NIL;
            frame.joinedValue = 0;
        }

        private static boolean isText(int kind) {
            return kind == STRING || kind == INTEGER;
        }

        private int joined(int kind, long value) {
            heap.workSize = 0;
            putText(kind, value);
            putText(frame.joinedKind, frame.joinedValue);
            return heap.intern(heap.work, 0, heap.workSize);
        }

        private void putText(int kind, long value) {
            if (kind == STRING) {
                heap.putBytes(heap.things[(int) value].bytes);
            } else {
                heap.putDecimal(value);
            }
        }

        private void branch() {
            switch (operation) {
                case 30:
                    if (a != 0) {
                        heap.closeFrom(coroutine, base + a - 1);
                    }
                    jump();
                    break;
                case 31:
                    equal();
                    break;
                case 34:
                    frame.pc += isTrue(a) == (c == 0) ? 1 : 0;
                    break;
                case 35:
                    if (isTrue(b) == (c == 1)) {
                        set(a, kindOf(b), valueOf(b));
                    } else {
                        frame.pc++;
                    }
                    break;
                default:
                    order();
                    break;
            }
        }

        private void decide(boolean truth) {
            frame.pc += truth == (a == 1) ? 0 : 1;
        }

        private void equal() {
            int kind = kindOf(b);
            int otherKind = kindOf(c);
            long value = valueOf(b);
            long otherValue = valueOf(c);
            boolean same = kind == otherKind && value == otherValue;
            if (same || kind != TABLE || otherKind != TABLE
                || !callsEither(EQ_EVENT, kind, value, otherKind, otherValue)) {
                decide(same);
            }
        }

        private void order() {
            int kind = kindOf(b);
            int otherKind = kindOf(c);
            long value = valueOf(b);
            long otherValue = valueOf(c);
            if (kind == INTEGER && otherKind == INTEGER) {
                decide(operation == 32 ? value < otherValue : value <= otherValue);
            } else if (kind == STRING && otherKind == STRING) {
                int order = compared(heap.things[(int) value].bytes, heap.things[(int) otherValue].bytes);
                decide(operation == 32 ? order < 0 : order <= 0);
            } else if (!callsEither(LT_EVENT + operation - 32, kind, value, otherKind, otherValue)) {
                machine.fail(ERROR_TYPE);
            }
        }

        private static int compared(byte[] bytes, byte[] others) {
            int shared = Math.min(bytes.length, others.length);
            for (int i = 0; i < shared; i++) {
                if (bytes[i] != others[i]) {
                    return (bytes[i] & 255) - (others[i] & 255);
                }
            }
            return bytes.length - others.length;
        }

        private void callOrReturn() {
            if (operation == 38) {
                if (gather(machine.results, a, b - 1)) {
                    machine.leave();
                    machine.turn = GIVE;
                }
                return;
            }
            if (!gather(machine.args, a + 1, operation == 41 ? 2 : b - 1)) {
                return;
            }
            machine.calleeKind = kindOf(a);
            machine.calleeValue = valueOf(a);
            machine.turn = ENTER;
            if (operation == 37) {
                machine.leave();
            }
        }

        /** So many registers from the first on, or, if less than none, all to the open row's end. */
        private boolean gather(Row row, int first, int many) {
            int end = many < 0 ? machine.openFrom : first + many;
            int further = many < 0 ? machine.open.size : 0;
            if (end - first + further > MOST_VALUES) {
                machine.fail(ERROR_NUMBER);
                return false;
            }
            row.clear();
            for (int i = first; i < end; i++) {
                row.add(kindOf(i), valueOf(i));
            }
            for (int i = 0; i < further; i++) {
                row.add(machine.open.kinds[i], machine.open.values[i]);
            }
            machine.open.clear();
            return true;
        }

        /** The call that the instruction under way has made has given results. */
        void finish() {
            decode();
            Row results = machine.results;
            machine.turn = NEXT_STEP;
            switch (operation) {
                case 8:
                case 10:
                    break;
                case 29:
                    frame.joinedKind = results.kindAt(0);
                    frame.joinedValue = results.valueAt(0);
                    machine.turn = JOIN;
                    break;
                case 31:
                case 32:
                case 33:
                    decide(results.kindAt(0) > FALSE);
                    break;
                case 36:
                    if (c == 0) {
                        machine.openFrom = a;
                        machine.open.takeAll(results);
                    } else {
                        setAll(a, c - 1);
                    }
                    break;
                case 41:
                    setAll(a + 3, c);
                    break;
                default:
                    setAll(a, 1);
                    break;
            }
            results.clear();
        }

        private void setAll(int first, int many) {
            for (int i = 0; i < many; i++) {
                set(first + i, machine.results.kindAt(i), machine.results.valueAt(i));
            }
        }

        private void loopOrTake() {
            switch (operation) {
                case 39:
                    loop();
                    break;
                case 40:
                    if (hasLoopNumbers()) {
                        set(a, INTEGER, valueOf(a) - valueOf(a + 2));
                        jump();
                    }
                    break;
                case 42:
                    if (kindOf(a + 1) != NIL) {
                        set(a, kindOf(a + 1), valueOf(a + 1));
                        jump();
                    }
                    break;
                default:
                    takeFurther();
                    break;
            }
        }

        private boolean hasLoopNumbers() {
            if (kindOf(a) == INTEGER && kindOf(a + 1) == INTEGER && kindOf(a + 2) == INTEGER) {
                return true;
            }
            machine.fail(ERROR_TYPE);
            return false;
        }

        private void loop() {
            if (!hasLoopNumbers()) {
                return;
            }
            long by = valueOf(a + 2);
            long now = valueOf(a) + by;
            long last = valueOf(a + 1);
            set(a, INTEGER, now);
            if (by > 0 ? now <= last : now >= last) {
                jump();
                set(a + 3, INTEGER, now);
            }
        }

        private void setList() {
            int registers = b == 0 ? machine.openFrom - a - 1 : b;
            int further = b == 0 ? machine.open.size : 0;
            int error = kindOf(a) == TABLE ? 0 : ERROR_TABLE;
            int table = (int) valueOf(a);
            for (int i = 0; i < registers && error == 0; i++) {
                error = tables.write(table, INTEGER, c + i, kindOf(a + 1 + i), valueOf(a + 1 + i));
            }
            for (int i = 0; i < further && error == 0; i++) {
                error = tables.write(table, INTEGER, c + registers + i, machine.open.kinds[i], machine.open.values[i]);
            }
            machine.open.clear();
            if (error != 0) {
                machine.fail(error);
            }
        }

        private void makeClosure() {
            int index = chunk.children[prototype.childStart + bx];
            Prototype p = chunk.prototypes[index];
            // the variables are made before the closure, but it is the closure that keeps them
            for (int i = 0; i < p.upvalues; i++) {
                int from = chunk.upvalues[p.upvalueStart + i];
                int variable = from < 0 ? 0 : heap.openVariable(coroutine, base + from);
                if (variable < 0) {
                    machine.fail(-variable);
                    return;
                }
            }
            int closure = heap.makeClosure(index, p.upvalues);
            if (closure < 0) {
                machine.fail(-closure);
                return;
            }
            int[] upvalues = heap.things[closure].upvalues;
            for (int i = 0; i < p.upvalues; i++) {
                int from = chunk.upvalues[p.upvalueStart + i];
                upvalues[i] = from < 0 ? upvalue(-1 - from) : heap.openVariable(coroutine, base + from);
            }
            set(a, FUNCTION, closure);
        }

        private void takeFurther() {
            int first = base + prototype.registers;
            if (b == 0) {
                machine.openFrom = a;
                machine.open.clear();
                for (int i = 0; i < frame.extra; i++) {
                    machine.open.add(coroutine.kinds[first + i], coroutine.values[first + i]);
                }
                return;
            }
            for (int i = 0; i < b - 1; i++) {
                boolean there = i < frame.extra;
                set(a + i, there ? coroutine.kinds[first + i] : NIL, there ? coroutine.values[first + i] : 0);
            }
        }
    }

    /** The built in functions, numbered as BUILT_IN_NAMES has them; a call's arguments are the machine's args. */
    private static final class BuiltIns {
        final byte[] printed = new byte[MOST_OUTPUT];
        int outputSize;
        private final Machine machine;
        private final Heap heap;
        private final Tables tables;
        private final Row args;
        private final Row results;

        BuiltIns(Machine machine) {
            this.machine = machine;
            heap = machine.heap;
            tables = machine.tables;
            args = machine.args;
            results = machine.results;
        }

        /** Those that go on elsewhere set the machine's turn themselves. */
        void perform() {
            results.clear();
            machine.turn = GIVE;
            switch ((int) (-1 - machine.calleeValue)) {
                case 0: print(); break;
                case 1: makeText(); break;
                case 2: results.add(STRING, heap.names[TYPE_NAMES + typeOf(args.kindAt(0))]); break;
                case 3: machine.raise(args.kindAt(0), args.valueAt(0)); break;
                case 4: callProtected(); break;
                case 5: setMetatable(); break;
                case 6: getMetatable(); break;
                case 7: readRaw(); break;
                case 8: writeRaw(); break;
                case 9: measureRaw(); break;
                case 10: compareRaw(); break;
                case 11: next(); break;
                case 12: select(); break;
                case 13: cut(); break;
                case 14: tellByte(); break;
                case 15: makeOfBytes(); break;
                case 16: measure(); break;
                case 17: create(); break;
                case 18: resume(); break;
                case 19: giveWay(); break;
                case 20: tellStatus(); break;
                case 21: tellRunning(); break;
                case 22: wrap(); break;
                default: cleanUp(); break;
            }
            if (machine.turn == GIVE) {
                args.clear();
            }
        }

        private boolean hasTable() {
            if (args.kindAt(0) != TABLE) {
                machine.fail(ERROR_TABLE);
            }
            return args.kindAt(0) == TABLE;
        }

        private boolean hasCoroutine() {
            if (args.kindAt(0) != COROUTINE) {
                machine.fail(ERROR_TABLE);
            }
            return args.kindAt(0) == COROUTINE;
        }

        private boolean hasFunction() {
            if (args.kindAt(0) != FUNCTION) {
                machine.fail(ERROR_CALL);
            }
            return args.kindAt(0) == FUNCTION;
        }

        /** A string, and so many arguments behind it that are integers or nil. */
        private boolean hasString(int numbers) {
            boolean right = args.kindAt(0) == STRING;
            for (int i = 1; i <= numbers; i++) {
                right = right && (args.kindAt(i) == NIL || args.kindAt(i) == INTEGER);
            }
            if (!right) {
                machine.fail(ERROR_TYPE);
            }
            return right;
        }

        private byte[] bytesOfFirst() {
            return heap.things[(int) args.valueAt(0)].bytes;
        }

        private void addTruth(boolean truth) {
            results.add(truth ? TRUE : FALSE, 0);
        }

        private void addEntry(int at) {
            results.add(at < 0 ? NIL : tables.valueKinds[at], at < 0 ? 0 : tables.values[at]);
        }

        /** Gives an object that has been made, or raises what forbade it. */
        private void addMade(int kind, int slot) {
            if (slot < 0) {
                machine.fail(-slot);
            } else {
                results.add(kind, slot);
            }
        }

        /** A kind's place among the names that "type" gives. */
        private static int typeOf(int kind) {
            return kind <= FALSE ? kind : kind - 1;
        }

        private void print() {
            for (int i = 0; i < args.size; i++) {
                if (i > 0) {
                    printByte('\t');
                }
                if (args.kinds[i] == STRING) {
                    byte[] bytes = heap.things[(int) args.values[i]].bytes;
                    printBytes(bytes, bytes.length);
                } else {
                    describe(args.kinds[i], args.values[i]);
                    printBytes(heap.work, heap.workSize);
                }
            }
            printByte('\n');
        }

        private void printByte(int b) {
            if (outputSize < MOST_OUTPUT) {
                printed[outputSize] = (byte) b;
                outputSize++;
            }
        }

        private void printBytes(byte[] bytes, int size) {
            int kept = Math.min(size, MOST_OUTPUT - outputSize);
            System.arraycopy(bytes, 0, printed, outputSize, kept);
            outputSize += kept;
        }

        /** Puts the text of what is no string together. */
        private void describe(int kind, long value) {
            heap.workSize = 0;
            switch (kind) {
                case NIL: heap.putText("nil"); return;
                case FALSE: heap.putText("false"); return;
                case TRUE: heap.putText("true"); return;
                case INTEGER: heap.putDecimal(value); return;
                case TABLE: heap.putText("table: "); break;
                case FUNCTION: heap.putText(value < 0 ? "builtin: " : "function: "); break;
                default: heap.putText("thread: "); break;
            }
            heap.putDecimal(heap.numberOf(value));
        }

        private void makeText() {
            int kind = args.kindAt(0);
            long value = args.valueAt(0);
            int handler = tables.findEvent(kind, value, TOSTRING_EVENT);
            if (handler >= 0) {
                if (machine.current.push(TOSTRING_FRAME, -1, 0)) {
                    machine.callEntry(handler, kind, value, NIL, 0);
                    args.size = 1;
                } else {
                    machine.fail(ERROR_DEPTH);
                }
            } else if (kind == STRING) {
                results.add(STRING, value);
            } else {
                describe(kind, value);
                addMade(STRING, heap.intern(heap.work, 0, heap.workSize));
            }
        }

        private void callProtected() {
            if (!machine.current.push(PCALL_FRAME, -1, 0)) {
                machine.fail(ERROR_DEPTH);
                return;
            }
            machine.calleeKind = args.kindAt(0);
            machine.calleeValue = args.valueAt(0);
            args.dropFirst(1);
            machine.turn = ENTER;
        }

        private void setMetatable() {
            if (!hasTable()) {
                return;
            }
            int table = (int) args.valueAt(0);
            if (args.kindAt(1) != TABLE && args.kindAt(1) != NIL) {
                machine.fail(ERROR_TABLE);
            } else if (tables.findEvent(TABLE, table, METATABLE_EVENT) >= 0) {
                machine.fail(ERROR_PROTECTED);
            } else {
                heap.things[table].metatable = args.kindAt(1) == NIL ? -1 : (int) args.valueAt(1);
                results.add(TABLE, table);
            }
        }

        private void getMetatable() {
            int at = tables.findEvent(args.kindAt(0), args.valueAt(0), METATABLE_EVENT);
            int metatable = args.kindAt(0) == TABLE ? heap.things[(int) args.valueAt(0)].metatable : -1;
            if (at >= 0) {
                addEntry(at);
            } else if (metatable >= 0) {
                results.add(TABLE, metatable);
            } else {
                results.add(NIL, 0);
            }
        }

        private void readRaw() {
            if (hasTable()) {
                addEntry(tables.find((int) args.valueAt(0), args.kindAt(1), args.valueAt(1)));
            }
        }

        private void writeRaw() {
            if (!hasTable()) {
                return;
            }
            int table = (int) args.valueAt(0);
            int error = tables.write(table, args.kindAt(1), args.valueAt(1), args.kindAt(2), args.valueAt(2));
            if (error != 0) {
                machine.fail(error);
            } else {
                results.add(TABLE, table);
            }
        }

        private void measureRaw() {
            if (args.kindAt(0) == STRING) {
                results.add(INTEGER, bytesOfFirst().length);
            } else if (hasTable()) {
                results.add(INTEGER, tables.border((int) args.valueAt(0)));
            }
        }

        private void compareRaw() {
            addTruth(args.kindAt(0) == args.kindAt(1) && args.valueAt(0) == args.valueAt(1));
        }

        private void next() {
            if (!hasTable()) {
                return;
            }
            int slot = (int) args.valueAt(0);
            Thing table = heap.things[slot];
            int from = table.start;
            if (args.kindAt(1) != NIL) {
                int at = tables.find(slot, args.kindAt(1), args.valueAt(1));
                if (at < 0) {
                    machine.fail(ERROR_KEY);
                    return;
                }
                from = at + 1;
            }
            for (int at = from; at < table.start + table.entries; at++) {
                if (tables.valueKinds[at] != NIL) {
                    results.add(tables.keyKinds[at], tables.keys[at]);
                    addEntry(at);
                    return;
                }
            }
            results.add(NIL, 0);
        }

        private void select() {
            long n = args.valueAt(0);
            if (isNumberSign()) {
                results.add(INTEGER, args.size - 1);
            } else if (args.kindAt(0) != INTEGER || n <= 0) {
                machine.fail(ERROR_NUMBER);
            } else {
                args.dropFirst((int) Math.min(n, args.size));
                results.takeAll(args);
            }
        }

        private boolean isNumberSign() {
            if (args.kindAt(0) != STRING) {
                return false;
            }
            byte[] bytes = bytesOfFirst();
            return bytes.length == 1 && bytes[0] == '#';
        }

        private void cut() {
            if (!hasString(2)) {
                return;
            }
            byte[] bytes = bytesOfFirst();
            long first = args.kindAt(1) == NIL ? 1 : fromFront(args.valueAt(1), bytes.length);
            long last = args.kindAt(2) == NIL ? bytes.length : fromFront(args.valueAt(2), bytes.length);
            int from = (int) Math.min(Math.max(first, 1), bytes.length + 1L);
            int to = (int) Math.min(last, bytes.length);
            addMade(STRING, heap.intern(bytes, from - 1, Math.max(0, to - from + 1)));
        }

        /** A place that counts from behind, if below 0, as one from the front; 0 if it is before the first. */
        private static long fromFront(long place, int size) {
            if (place >= 0) {
                return place;
            }
            return place < -size ? 0 : size + place + 1;
        }

        private void tellByte() {
            if (!hasString(1)) {
                return;
            }
            byte[] bytes = bytesOfFirst();
            long place = args.kindAt(1) == NIL ? 1 : fromFront(args.valueAt(1), bytes.length);
            if (place < 1 || place > bytes.length) {
                results.add(NIL, 0);
            } else {
                results.add(INTEGER, bytes[(int) place - 1] & 255);
            }
        }

        private void measure() {
            if (hasString(0)) {
                results.add(INTEGER, bytesOfFirst().length);
            }
        }

        private void makeOfBytes() {
            heap.workSize = 0;
            for (int i = 0; i < args.size; i++) {
                if (args.kinds[i] != INTEGER) {
                    machine.fail(ERROR_TYPE);
                    return;
                }
                if (args.values[i] < 0 || args.values[i] > 255) {
                    machine.fail(ERROR_NUMBER);
                    return;
                }
                heap.putByte((int) args.values[i]);
            }
            addMade(STRING, heap.intern(heap.work, 0, heap.workSize));
        }

        private void create() {
            if (hasFunction()) {
                addMade(COROUTINE, heap.makeCoroutine(args.valueAt(0)));
            }
        }

        private void wrap() {
            if (!hasFunction()) {
                return;
            }
            int coroutine = heap.makeCoroutine(args.valueAt(0));
            if (coroutine < 0) {
                machine.fail(-coroutine);
                return;
            }
            // in hand, while the wrapper is made
            args.addFirst(COROUTINE, coroutine);
            int wrapper = heap.make(WRAPPER, 0, 0);
            if (wrapper >= 0) {
                heap.things[wrapper].link = coroutine;
            }
            addMade(FUNCTION, wrapper);
        }

        private void resume() {
            if (!hasCoroutine()) {
                return;
            }
            Coroutine c = machine.coroutineOf((int) args.valueAt(0));
            if (c.status != SUSPENDED) {
                results.add(FALSE, 0);
                results.add(INTEGER, ERROR_STATE);
            } else if (!machine.current.push(RESUME_FRAME, -1, 0)) {
                machine.fail(ERROR_DEPTH);
            } else {
                args.dropFirst(1);
                machine.goOnWith(c);
            }
        }

        private void giveWay() {
            if (machine.current.resumer < 0) {
                machine.fail(ERROR_STATE);
            } else {
                results.takeAll(args);
                machine.handOver(SUSPENDED);
            }
        }

        private void tellStatus() {
            if (hasCoroutine()) {
                Coroutine c = machine.coroutineOf((int) args.valueAt(0));
                results.add(STRING, heap.names[STATUS_NAMES + c.status]);
            }
        }

        private void tellRunning() {
            results.add(COROUTINE, machine.current.slot);
            addTruth(machine.current.resumer < 0);
        }

        /** It makes nothing, so that its arguments are not in hand. */
        private void cleanUp() {
            args.clear();
            heap.clean();
            results.add(INTEGER, heap.tally[EXISTING]);
        }
    }
}
