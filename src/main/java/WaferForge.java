import java.util.Arrays;

/**
 * A compiler of a small language to WebAssembly modules, and a reader,
 * validator and machine for these modules and others of their kind.
 */
public final class WaferForge {
    private static final int TAPE_MOST = 2000;
    private static final int FEED_BYTES = 20;
    private static final int ARGUMENTS_MOST = 8;

    /** The greatest growth is 3 bytes to 11 ("||1"), so 2000 bytes stay below 7500. */
    private static final int MODULE_MOST = 8192;
    /** The greatest growth is 3 bytes to 7 instructions ("||1"), so 2000 bytes stay below 4700. */
    private static final int INSTRUCTIONS_MOST = 5000;
    /** No sign gives more than two steps. */
    private static final int STEPS_MOST = 2 * TAPE_MOST + 100;

    private static final int INT = 0x7F;
    private static final int LONG = 0x7E;
    private static final int NOTHING = 0x40;
    private static final int UNKNOWN = 0;

    private static final int CANNOT_STAND = 1;
    private static final int NO_SUCH_NAME = 2;
    private static final int WRONG_TYPE = 3;
    private static final int NAME_TWICE = 4;
    private static final int TOO_MANY = 5;
    private static final int NO_WHILE = 6;
    private static final int NOT_READ = 7;
    private static final int NOT_VALID = 8;
    private static final int UNREACHABLE_MET = 9;
    private static final int BY_ZERO = 10;
    private static final int QUOTIENT_TOO_GREAT = 11;
    private static final int OUTSIDE_MEMORY = 12;
    private static final int NO_ROOM = 13;
    private static final int TOO_LONG = 14;

    private static final int NAME_MOST = 20;
    private static final int PROGRAM_GLOBALS_MOST = 20;
    private static final int PROGRAM_FUNCTIONS_MOST = 20;
    private static final int PARAMETERS_MOST = 8;
    private static final int OPEN_MOST = 40;
    private static final int TWO_SIDES_MOST = 200;
    private static final int PROGRAM_LOCALS_MOST = 50;

    private static final int TYPES_MOST = 20;
    private static final int FUNCTIONS_MOST = 30;
    private static final int GLOBALS_MOST = 20;
    private static final int EXPORTS_MOST = 40;
    private static final int EXPORT_NAME_MOST = 30;
    private static final int LOCALS_MOST = 60;
    private static final int BLOCKS_MOST = 100;
    private static final int LABELS_MOST = 50;
    private static final long INDEX_MOST = Integer.MAX_VALUE;
    private static final long NUMBER_MOST = 0xFFFFFFFFL;
    private static final int PAGE = 65536;
    private static final int PAGES_MOST = 2;
    private static final int FORMAL_PAGES_MOST = 65536;
    private static final int FRAMES_MOST = 100;
    private static final int STACK_MOST = 12096;
    private static final int MACHINE_STEPS_MOST = 100000;

    private static final byte[] HEAD = {0x00, 0x61, 0x73, 0x6D, 0x01, 0x00, 0x00, 0x00};

    private static final int SECTION_OTHER = 0;
    private static final int SECTION_TYPES = 1;
    private static final int SECTION_FUNCTIONS = 3;
    private static final int SECTION_MEMORY = 5;
    private static final int SECTION_GLOBALS = 6;
    private static final int SECTION_EXPORTS = 7;
    private static final int SECTION_CODES = 10;

    private static final int KIND_FUNCTION = 0;
    private static final int KIND_MEMORY = 2;
    private static final int KIND_GLOBAL = 3;
    private static final int FUNCTION_TYPE = 0x60;

    private static final int OP_UNREACHABLE = 0x00;
    private static final int OP_NOP = 0x01;
    private static final int OP_BLOCK = 0x02;
    private static final int OP_LOOP = 0x03;
    private static final int OP_IF = 0x04;
    private static final int OP_ELSE = 0x05;
    private static final int OP_END = 0x0B;
    private static final int OP_BR = 0x0C;
    private static final int OP_BR_IF = 0x0D;
    private static final int OP_BR_TABLE = 0x0E;
    private static final int OP_RETURN = 0x0F;
    private static final int OP_CALL = 0x10;
    private static final int OP_DROP = 0x1A;
    private static final int OP_SELECT = 0x1B;
    private static final int OP_LOCAL_GET = 0x20;
    private static final int OP_LOCAL_SET = 0x21;
    private static final int OP_LOCAL_TEE = 0x22;
    private static final int OP_GLOBAL_GET = 0x23;
    private static final int OP_GLOBAL_SET = 0x24;
    private static final int OP_LOAD32 = 0x28;
    private static final int OP_LOAD64 = 0x29;
    private static final int OP_LOAD8_S = 0x2C;
    private static final int OP_LOAD8_U = 0x2D;
    private static final int OP_STORE32 = 0x36;
    private static final int OP_STORE64 = 0x37;
    private static final int OP_STORE8 = 0x3A;
    private static final int OP_SIZE = 0x3F;
    private static final int OP_GROW = 0x40;
    private static final int OP_CONST32 = 0x41;
    private static final int OP_CONST64 = 0x42;
    private static final int OP_EQZ32 = 0x45;
    private static final int OP_EQ32 = 0x46;
    private static final int OP_NE32 = 0x47;
    private static final int OP_EQZ64 = 0x50;
    private static final int OP_EQ64 = 0x51;
    private static final int OP_GE_U64 = 0x5A;
    private static final int OP_CLZ32 = 0x67;
    private static final int OP_ADD32 = 0x6A;
    private static final int OP_SUB32 = 0x6B;
    private static final int OP_XOR32 = 0x73;
    private static final int OP_ROTR32 = 0x78;
    private static final int OP_CLZ64 = 0x79;
    private static final int OP_ADD64 = 0x7C;
    private static final int OP_SUB64 = 0x7D;
    private static final int OP_XOR64 = 0x85;
    private static final int OP_ROTR64 = 0x8A;
    private static final int OP_WRAP = 0xA7;
    private static final int OP_EXTEND_S = 0xAC;
    private static final int OP_EXTEND_U = 0xAD;

    private static final int LEVEL_OR = 1;
    private static final int LEVEL_AND = 2;
    private static final int LEVEL_COMPARE = 3;
    private static final int LEVEL_BITS = 4;
    private static final int LEVEL_SHIFT = 5;
    private static final int LEVEL_SUM = 6;
    private static final int LEVEL_PRODUCT = 7;

    private static final int STEP_CONSTANT = 0;
    private static final int STEP_READ = 1;
    private static final int STEP_HALFWAY = 2;
    private static final int STEP_TWO_SIDES = 3;
    private static final int STEP_PREFIX_BEGIN = 4;
    private static final int STEP_PREFIX = 5;
    private static final int STEP_CONVERT = 6;
    private static final int STEP_CALL = 7;
    private static final int STEP_DECLARE = 8;
    private static final int STEP_ASSIGN = 9;
    private static final int STEP_DISCARD = 10;
    private static final int STEP_RETURN = 11;
    private static final int STEP_LEAVE = 12;
    private static final int STEP_THEN = 13;
    private static final int STEP_OTHERWISE = 14;
    private static final int STEP_IF_END = 15;
    private static final int STEP_LOOP_BEGIN = 16;
    private static final int STEP_LOOP_TEST = 17;
    private static final int STEP_LOOP_END = 18;
    private static final int STEP_BLOCK_BEGIN = 19;
    private static final int STEP_BLOCK_END = 20;

    private static final Sign[] SIGNS = Sign.values();

    private final ByteRow tape = new ByteRow(TAPE_MOST);
    private final ByteRow result = new ByteRow(MODULE_MOST);
    private final long[] arguments = new long[ARGUMENTS_MOST];
    private int argumentCount;
    private int reason;
    private int place = -1;
    private boolean loaded;
    /** The MODULE, if loaded. */
    private Wafer wafer = new Wafer();
    /** A module is made here, so that a refused one leaves the MODULE as it is. */
    private Wafer spare = new Wafer();
    private final Program program = new Program(new Scanner(tape));
    private final Coder coder = new Coder(program);
    private final Reader reader = new Reader();
    private final Validator validator = new Validator();
    private final Machine machine = new Machine();

    public WaferForge() {
    }

    public int feed(int a, int b, int c, int d, int e) throws IndexOutOfBoundsException {
        if (tape.length + FEED_BYTES > TAPE_MOST) {
            throw new IndexOutOfBoundsException();
        }
        tape.putInt(a);
        tape.putInt(b);
        tape.putInt(c);
        tape.putInt(d);
        tape.putInt(e);
        return tape.length;
    }

    public int end(int n) throws IllegalArgumentException {
        if (n < 0 || n > tape.length) {
            throw new IllegalArgumentException();
        }
        tape.length = n;
        return n;
    }

    public int compile() throws UnsupportedOperationException {
        boolean done = isCompiled();
        tape.length = 0;
        reason = done ? 0 : program.reason;
        place = done ? -1 : program.place;
        if (!done) {
            throw new UnsupportedOperationException();
        }
        // the machine runs what the reader makes of bytes, so the code is read like any other
        reader.read(spare);
        loadSpare();
        return wafer.bytes.length;
    }

    public int module() throws UnsupportedOperationException {
        spare.bytes.copy(tape);
        tape.length = 0;
        place = -1;
        reason = !reader.read(spare) ? NOT_READ : !validator.check(spare) ? NOT_VALID : 0;
        if (reason != 0) {
            throw new UnsupportedOperationException();
        }
        loadSpare();
        return wafer.functionCount;
    }

    public int emit() throws IllegalStateException {
        if (!loaded) {
            throw new IllegalStateException();
        }
        result.copy(wafer.bytes);
        return result.length;
    }

    public int find() {
        int found = loaded ? wafer.exportedFunction(tape) : -1;
        tape.length = 0;
        return found;
    }

    public int argument(long v) throws IndexOutOfBoundsException {
        if (argumentCount >= ARGUMENTS_MOST) {
            throw new IndexOutOfBoundsException();
        }
        arguments[argumentCount++] = v;
        return argumentCount;
    }

    public long call(int f) throws IllegalArgumentException, IllegalStateException, ArithmeticException {
        if (!loaded) {
            throw new IllegalStateException();
        }
        if (f < 0 || f >= wafer.functionCount) {
            throw new IllegalArgumentException();
        }
        int given = argumentCount;
        argumentCount = 0;
        if (given != wafer.takes(f)) {
            throw new IllegalArgumentException();
        }
        long answer = machine.run(f, arguments);
        reason = machine.reason;
        if (reason != 0) {
            throw new ArithmeticException();
        }
        return answer;
    }

    public long global(int g) throws IllegalArgumentException, IllegalStateException {
        if (!loaded) {
            throw new IllegalStateException();
        }
        if (g < 0 || g >= wafer.globalCount) {
            throw new IllegalArgumentException();
        }
        return machine.globals[g];
    }

    public int memory(int i) throws IllegalArgumentException, IllegalStateException {
        if (!loaded) {
            throw new IllegalStateException();
        }
        if (i < 0 || i >= machine.pages * PAGE) {
            throw new IllegalArgumentException();
        }
        return machine.byteAt(i);
    }

    public long word(int i) throws IndexOutOfBoundsException {
        if (i < 0 || i >= result.length) {
            throw new IndexOutOfBoundsException();
        }
        long value = 0;
        for (int k = 0; k < 8; k++) {
            int next = i + k < result.length ? result.at(i + k) : 0;
            value = value << 8 | next;
        }
        return value;
    }

    public int count(int what) throws IllegalArgumentException {
        switch (what) {
            case 0:
                return tape.length;
            case 1:
                return result.length;
            case 2:
                return reason;
            case 3:
                return place;
            case 4:
                return loaded ? wafer.functionCount : -1;
            case 5:
                return loaded ? wafer.globalCount : -1;
            case 6:
                return loaded ? machine.pages : -1;
            case 7:
                return machine.steps;
            case 8:
                return argumentCount;
            default:
                throw new IllegalArgumentException();
        }
    }

    private boolean isCompiled() {
        try {
            program.readProgram();
            coder.write(spare.bytes);
            return true;
        } catch (UnsupportedOperationException refused) {
            return false;
        }
    }

    private void loadSpare() {
        Wafer former = wafer;
        wafer = spare;
        spare = former;
        loaded = true;
        machine.load(wafer);
    }

    /** The signs of the language, with what the coder must know of them. */
    private enum Sign {
        END(""), WRONG(""), NAME(""), INTEGER(""), LONG_INTEGER(""),
        FN("fn"), GLOBAL("global"), VAR("var"), IF("if"), ELSE("else"), WHILE("while"),
        BREAK("break"), CONTINUE("continue"), RETURN("return"), I32("i32"), I64("i64"),
        MEMORY("memory"),
        LOAD8("load8", INT, NOTHING, INT, OP_LOAD8_U), LOAD32("load32", INT, NOTHING, INT, OP_LOAD32),
        LOAD64("load64", INT, NOTHING, LONG, OP_LOAD64), STORE8("store8", INT, INT, NOTHING, OP_STORE8),
        STORE32("store32", INT, INT, NOTHING, OP_STORE32), STORE64("store64", INT, LONG, NOTHING, OP_STORE64),
        SIZE("size", NOTHING, NOTHING, INT, OP_SIZE), GROW("grow", INT, NOTHING, INT, OP_GROW),
        TRAP("trap", NOTHING, NOTHING, NOTHING, OP_UNREACHABLE),
        LEFT("("), RIGHT(")"), LEFT_BRACE("{"), RIGHT_BRACE("}"),
        COLON(":"), SEMICOLON(";"), COMMA(","), ASSIGN("="), NOT("!"), INVERT("~"),
        OR("||", LEVEL_OR, OP_NE32, OP_NE32), AND("&&", LEVEL_AND, OP_NE32, OP_NE32),
        EQUAL("==", LEVEL_COMPARE, OP_EQ32, OP_EQ64), DIFFERENT("!=", LEVEL_COMPARE, OP_NE32, 0x52),
        LESS("<", LEVEL_COMPARE, 0x48, 0x53), GREATER(">", LEVEL_COMPARE, 0x4A, 0x55),
        AT_MOST("<=", LEVEL_COMPARE, 0x4C, 0x57), AT_LEAST(">=", LEVEL_COMPARE, 0x4E, 0x59),
        BIT_AND("&", LEVEL_BITS, 0x71, 0x83), BIT_OR("|", LEVEL_BITS, 0x72, 0x84),
        BIT_XOR("^", LEVEL_BITS, OP_XOR32, OP_XOR64), SHIFT_LEFT("<<", LEVEL_SHIFT, 0x74, 0x86),
        SHIFT_RIGHT(">>", LEVEL_SHIFT, 0x75, 0x87), SHIFT_UNSIGNED(">>>", LEVEL_SHIFT, 0x76, 0x88),
        PLUS("+", LEVEL_SUM, OP_ADD32, OP_ADD64), MINUS("-", LEVEL_SUM, OP_SUB32, OP_SUB64),
        TIMES("*", LEVEL_PRODUCT, 0x6C, 0x7E), OVER("/", LEVEL_PRODUCT, 0x6D, 0x7F),
        REMAINDER("%", LEVEL_PRODUCT, 0x6F, 0x81);

        final String text;
        /** How tightly a sign of two sides binds; 0: it is none. */
        final int level;
        final int code32;
        final int code64;
        final int takesFirst;
        final int takesSecond;
        final int gives;

        Sign(String text) {
            this(text, 0, 0, 0);
        }

        Sign(String text, int level, int code32, int code64) {
            this.text = text;
            this.level = level;
            this.code32 = code32;
            this.code64 = code64;
            this.takesFirst = NOTHING;
            this.takesSecond = NOTHING;
            this.gives = NOTHING;
        }

        Sign(String text, int takesFirst, int takesSecond, int gives, int code) {
            this.text = text;
            this.level = 0;
            this.code32 = code;
            this.code64 = code;
            this.takesFirst = takesFirst;
            this.takesSecond = takesSecond;
            this.gives = gives;
        }

        boolean isPrefix() {
            return this == MINUS || this == NOT || this == INVERT;
        }

        int takes() {
            return takesFirst == NOTHING ? 0 : takesSecond == NOTHING ? 1 : 2;
        }

        int type() {
            return this == I32 || this == INTEGER ? INT : LONG;
        }
    }

    /** A row of bytes with a length, made once and used again. */
    private static final class ByteRow {
        final byte[] bytes;
        int length;

        ByteRow(int most) {
            bytes = new byte[most];
        }

        /** The byte at i, or -1 where there is none. */
        int at(int i) {
            return i >= 0 && i < length ? bytes[i] & 0xFF : -1;
        }

        void put(int value) {
            if (length < bytes.length) {
                bytes[length++] = (byte) value;
            }
        }

        void change(int i, int value) {
            if (i >= 0 && i < length) {
                bytes[i] = (byte) value;
            }
        }

        void putInt(int value) {
            for (int shift = 24; shift >= 0; shift -= 8) {
                put(value >>> shift);
            }
        }

        void putUnsigned(int value) {
            int rest = value;
            for (int i = 0; i < 5 && rest >>> 7 != 0; i++) {
                put(rest & 0x7F | 0x80);
                rest >>>= 7;
            }
            put(rest);
        }

        void putSigned(long value) {
            long rest = value;
            for (int i = 0; i < 10 && (rest < -64 || rest > 63); i++) {
                put((int) (rest & 0x7F) | 0x80);
                rest >>= 7;
            }
            put((int) (rest & 0x7F));
        }

        void putText(String text) {
            for (int i = 0; i < text.length(); i++) {
                put(text.charAt(i));
            }
        }

        void putPart(ByteRow row, int from, int size) {
            for (int i = 0; i < size; i++) {
                put(row.at(from + i));
            }
        }

        void copy(ByteRow row) {
            length = 0;
            putPart(row, 0, row.length);
        }

        boolean holds(int from, String text) {
            for (int i = 0; i < text.length(); i++) {
                if (at(from + i) != text.charAt(i)) {
                    return false;
                }
            }
            return true;
        }

        boolean samePart(int one, int other, int size) {
            if (one < 0 || other < 0 || one > length - size || other > length - size) {
                return false;
            }
            for (int i = 0; i < size; i++) {
                if (bytes[one + i] != bytes[other + i]) {
                    return false;
                }
            }
            return true;
        }
    }

    /** The signs of the tape, up to the first that is none, and a look at one of them at a time. */
    private static final class Scanner {
        final ByteRow text;
        Sign sign = Sign.END;
        int place;
        int size;
        long value;
        private final Sign[] signs = new Sign[TAPE_MOST + 1];
        private final int[] places = new int[TAPE_MOST + 1];
        private final int[] sizes = new int[TAPE_MOST + 1];
        private final long[] values = new long[TAPE_MOST + 1];
        private int length;
        private int at;

        Scanner(ByteRow text) {
            this.text = text;
        }

        void begin() {
            place = 0;
            size = 0;
            sign = Sign.NAME;
            length = 0;
            for (int n = 0; n <= TAPE_MOST && sign != Sign.END && sign != Sign.WRONG; n++) {
                skipBlanks();
                readSign();
                keep();
            }
            at = -1;
            next();
        }

        /** Goes on to the next sign; the last one stays for ever. */
        void next() {
            if (at + 1 < length) {
                at++;
                sign = signs[at];
                place = places[at];
                size = sizes[at];
                value = values[at];
            }
        }

        boolean isBeforeAssign() {
            return at + 1 < length && signs[at + 1] == Sign.ASSIGN;
        }

        private void keep() {
            if (length < signs.length) {
                signs[length] = sign;
                places[length] = place;
                sizes[length] = size;
                values[length] = value;
                length++;
            }
        }

        private void skipBlanks() {
            boolean comment = false;
            for (place += size; place < text.length; place++) {
                int c = text.at(place);
                if (comment) {
                    comment = c != 10;
                } else if (c == '/' && text.at(place + 1) == '/') {
                    comment = true;
                } else if (c != 9 && c != 10 && c != 13 && c != 32) {
                    return;
                }
            }
        }

        private void readSign() {
            int first = text.at(place);
            if (first < 0) {
                sign = Sign.END;
                size = 0;
            } else if (isLetter(first)) {
                readName();
            } else if (isDigit(first)) {
                readInteger();
            } else {
                readMark();
            }
        }

        private void readName() {
            size = 1;
            while (place + size < text.length && isNamePart(text.at(place + size))) {
                size++;
            }
            sign = size > NAME_MOST ? Sign.WRONG : Sign.NAME;
            for (int i = 0; i < SIGNS.length; i++) {
                if (SIGNS[i].text.length() == size && text.holds(place, SIGNS[i].text)) {
                    sign = SIGNS[i];
                }
            }
        }

        private void readInteger() {
            boolean tooGreat = false;
            value = 0;
            size = 0;
            while (place + size < text.length && isDigit(text.at(place + size))) {
                int digit = text.at(place + size) - '0';
                tooGreat = tooGreat || value > (Long.MAX_VALUE - digit) / 10;
                value = value * 10 + digit;
                size++;
            }
            boolean isLong = text.at(place + size) == 'L';
            if (isLong) {
                size++;
            } else {
                tooGreat = tooGreat || value > Integer.MAX_VALUE;
            }
            sign = tooGreat ? Sign.WRONG : isLong ? Sign.LONG_INTEGER : Sign.INTEGER;
        }

        private void readMark() {
            sign = Sign.WRONG;
            size = 0;
            for (int i = 0; i < SIGNS.length; i++) {
                if (SIGNS[i].text.length() > size && text.holds(place, SIGNS[i].text)) {
                    sign = SIGNS[i];
                    size = sign.text.length();
                }
            }
        }

        private static boolean isLetter(int c) {
            return c >= 'a' && c <= 'z' || c >= 'A' && c <= 'Z' || c == '_';
        }

        private static boolean isDigit(int c) {
            return c >= '0' && c <= '9';
        }

        private static boolean isNamePart(int c) {
            return isLetter(c) || isDigit(c);
        }
    }

    /** A table of NAMES, each with a type and a number. */
    private static final class Names {
        final ByteRow text;
        final int[] starts;
        final int[] sizes;
        final int[] types;
        final long[] values;
        int length;

        Names(ByteRow text, int most) {
            this.text = text;
            starts = new int[most];
            sizes = new int[most];
            types = new int[most];
            values = new long[most];
        }

        void add(int start, int size, int type, long value) {
            if (length < starts.length) {
                starts[length] = start;
                sizes[length] = size;
                types[length] = type;
                values[length] = value;
                length++;
            }
        }

        /** The first of this NAME, or -1. */
        int indexOf(int start, int size) {
            for (int i = 0; i < length; i++) {
                if (sizes[i] == size && text.samePart(starts[i], start, size)) {
                    return i;
                }
            }
            return -1;
        }

        /** The first NAME that an earlier one has, or -1. */
        int firstRepeated() {
            for (int i = 0; i < length; i++) {
                if (indexOf(starts[i], sizes[i]) < i) {
                    return i;
                }
            }
            return -1;
        }
    }

    /**
     * A PROGRAM, read from the tape into tables and steps. The steps stand in the order in which
     * code is made: operands before what is done to them.
     */
    private static final class Program {
        final Names globals;
        final Names functions;
        final Names parameters;
        final int[] parameterFirst = new int[PROGRAM_FUNCTIONS_MOST + 1];
        final int[] stepFirst = new int[PROGRAM_FUNCTIONS_MOST + 1];
        final int[] kinds = new int[STEPS_MOST];
        final Sign[] signs = new Sign[STEPS_MOST];
        final int[] places = new int[STEPS_MOST];
        final int[] sizes = new int[STEPS_MOST];
        final long[] values = new long[STEPS_MOST];
        int reason;
        int place;
        private final Scanner scanner;
        private int stepCount;
        private int open;
        private int twoSides;
        /** Signs in front and of two sides whose right side is not read to its end. */
        private final Sign[] waiting = new Sign[OPEN_MOST * (LEVEL_PRODUCT + 2)];
        private final int[] waitingPlaces = new int[OPEN_MOST * (LEVEL_PRODUCT + 2)];
        private int waitingCount;

        Program(Scanner scanner) {
            this.scanner = scanner;
            globals = new Names(scanner.text, PROGRAM_GLOBALS_MOST);
            functions = new Names(scanner.text, PROGRAM_FUNCTIONS_MOST);
            parameters = new Names(scanner.text, PROGRAM_FUNCTIONS_MOST * PARAMETERS_MOST);
        }

        void refuse(int why, int where) {
            reason = why;
            place = where;
            throw new UnsupportedOperationException();
        }

        void readProgram() {
            globals.length = 0;
            functions.length = 0;
            parameters.length = 0;
            stepCount = 0;
            open = 0;
            waitingCount = 0;
            scanner.begin();
            for (int n = 0; n <= TAPE_MOST && scanner.sign != Sign.END; n++) {
                if (scanner.sign == Sign.GLOBAL) {
                    readGlobal();
                } else {
                    readFunction();
                }
            }
            if (functions.length == 0) {
                refuse(CANNOT_STAND, scanner.place);
            }
        }

        private void readGlobal() {
            scanner.next();
            if (globals.length >= PROGRAM_GLOBALS_MOST) {
                refuseOneMore();
            }
            int start = scanner.place;
            int size = scanner.size;
            take(Sign.NAME);
            take(Sign.COLON);
            int type = takeType();
            take(Sign.ASSIGN);
            boolean negative = scanner.sign == Sign.MINUS;
            if (negative) {
                scanner.next();
            }
            long value = negative ? -scanner.value : scanner.value;
            take(type == INT ? Sign.INTEGER : Sign.LONG_INTEGER);
            take(Sign.SEMICOLON);
            globals.add(start, size, type, value);
        }

        private void readFunction() {
            take(Sign.FN);
            int f = functions.length;
            if (f >= PROGRAM_FUNCTIONS_MOST) {
                refuseOneMore();
                return;
            }
            int start = scanner.place;
            int size = scanner.size;
            take(Sign.NAME);
            parameterFirst[f] = parameters.length;
            take(Sign.LEFT);
            if (scanner.sign != Sign.RIGHT) {
                readParameters();
            }
            take(Sign.RIGHT);
            int gives = NOTHING;
            if (scanner.sign == Sign.COLON) {
                scanner.next();
                gives = takeType();
            }
            functions.add(start, size, gives, 0);
            parameterFirst[f + 1] = parameters.length;
            stepFirst[f] = stepCount;
            twoSides = 0;
            readBlock();
            stepFirst[f + 1] = stepCount;
        }

        private void readParameters() {
            for (int n = 0; n <= PARAMETERS_MOST; n++) {
                if (n == PARAMETERS_MOST) {
                    refuseOneMore();
                }
                int start = scanner.place;
                int size = scanner.size;
                take(Sign.NAME);
                take(Sign.COLON);
                parameters.add(start, size, takeType(), 0);
                if (scanner.sign != Sign.COMMA) {
                    return;
                }
                scanner.next();
            }
        }

        private void readBlock() {
            if (scanner.sign != Sign.LEFT_BRACE) {
                refuse(CANNOT_STAND, scanner.place);
            }
            enter();
            add(STEP_BLOCK_BEGIN, scanner.sign, scanner.place, 0, 0);
            scanner.next();
            for (int n = 0; n <= TAPE_MOST && scanner.sign != Sign.RIGHT_BRACE; n++) {
                readStatement();
            }
            add(STEP_BLOCK_END, scanner.sign, scanner.place, 0, 0);
            take(Sign.RIGHT_BRACE);
            open--;
        }

        private void readStatement() {
            switch (scanner.sign) {
                case VAR:
                    readVar();
                    break;
                case IF:
                    readIf();
                    break;
                case WHILE:
                    readWhile();
                    break;
                case BREAK:
                case CONTINUE:
                    add(STEP_LEAVE, scanner.sign, scanner.place, 0, 0);
                    scanner.next();
                    take(Sign.SEMICOLON);
                    break;
                case RETURN:
                    readReturn();
                    break;
                default:
                    readPlainStatement();
                    break;
            }
        }

        private void readPlainStatement() {
            Sign first = scanner.sign;
            int start = scanner.place;
            int size = scanner.size;
            boolean assigns = first == Sign.NAME && scanner.isBeforeAssign();
            if (assigns) {
                scanner.next();
                take(Sign.ASSIGN);
            }
            readX();
            add(assigns ? STEP_ASSIGN : STEP_DISCARD, first, start, size, 0);
            take(Sign.SEMICOLON);
        }

        private void readVar() {
            int start = scanner.place;
            scanner.next();
            int nameStart = scanner.place;
            int nameSize = scanner.size;
            take(Sign.NAME);
            take(Sign.COLON);
            Sign type = scanner.sign;
            takeType();
            take(Sign.ASSIGN);
            readX();
            add(STEP_DECLARE, type, start, nameSize, nameStart);
            take(Sign.SEMICOLON);
        }

        private void readIf() {
            int start = scanner.place;
            enter();
            scanner.next();
            readX();
            add(STEP_THEN, Sign.IF, start, 0, 0);
            readBlock();
            if (scanner.sign == Sign.ELSE) {
                add(STEP_OTHERWISE, Sign.ELSE, scanner.place, 0, 0);
                scanner.next();
                if (scanner.sign == Sign.IF) {
                    readIf();
                } else {
                    readBlock();
                }
            }
            add(STEP_IF_END, Sign.IF, start, 0, 0);
            open--;
        }

        private void readWhile() {
            int start = scanner.place;
            add(STEP_LOOP_BEGIN, Sign.WHILE, start, 0, 0);
            scanner.next();
            readX();
            add(STEP_LOOP_TEST, Sign.WHILE, start, 0, 0);
            readBlock();
            add(STEP_LOOP_END, Sign.WHILE, start, 0, 0);
        }

        private void readReturn() {
            int start = scanner.place;
            scanner.next();
            boolean hasX = scanner.sign != Sign.SEMICOLON;
            if (hasX) {
                readX();
            }
            add(STEP_RETURN, Sign.RETURN, start, 0, hasX ? 1 : 0);
            take(Sign.SEMICOLON);
        }

        private void readX() {
            enter();
            int floor = waitingCount;
            readU();
            for (int n = 0; n <= TWO_SIDES_MOST && scanner.sign.level > 0; n++) {
                readTwoSides(floor);
                readU();
            }
            settle(floor, 1);
            open--;
        }

        /** The sign of two sides behind a left side, whose own signs are settled first. */
        private void readTwoSides(int floor) {
            Sign sign = scanner.sign;
            int start = scanner.place;
            settle(floor, sign.level + 1);
            if (sign.level == LEVEL_COMPARE && waitingCount > floor
                    && waiting[waitingCount - 1].level == LEVEL_COMPARE) {
                refuse(CANNOT_STAND, start);
            }
            if (twoSides >= TWO_SIDES_MOST) {
                refuseOneMore();
            }
            twoSides++;
            settle(floor, sign.level);
            if (sign == Sign.OR || sign == Sign.AND) {
                add(STEP_HALFWAY, sign, start, 0, 0);
            }
            hold(sign, start);
            scanner.next();
        }

        /** Ends the waiting signs of this X that bind at least as tightly as the level. */
        private void settle(int floor, int level) {
            while (waitingCount > floor && waiting[waitingCount - 1].level >= level) {
                waitingCount--;
                add(STEP_TWO_SIDES, waiting[waitingCount], waitingPlaces[waitingCount], 0, 0);
            }
        }

        private void readU() {
            int floor = waitingCount;
            for (int n = 0; n <= OPEN_MOST && scanner.sign.isPrefix(); n++) {
                enter();
                if (scanner.sign == Sign.MINUS) {
                    add(STEP_PREFIX_BEGIN, scanner.sign, scanner.place, 0, 0);
                }
                hold(scanner.sign, scanner.place);
                scanner.next();
            }
            readOperand();
            while (waitingCount > floor) {
                waitingCount--;
                add(STEP_PREFIX, waiting[waitingCount], waitingPlaces[waitingCount], 0, 0);
                open--;
            }
        }

        private void readOperand() {
            Sign sign = scanner.sign;
            int start = scanner.place;
            int size = scanner.size;
            switch (sign) {
                case INTEGER:
                case LONG_INTEGER:
                    add(STEP_CONSTANT, sign, start, size, scanner.value);
                    scanner.next();
                    break;
                case NAME:
                    scanner.next();
                    if (scanner.sign == Sign.LEFT) {
                        readCall(sign, start, size);
                    } else {
                        add(STEP_READ, sign, start, size, 0);
                    }
                    break;
                case LOAD8: case LOAD32: case LOAD64: case STORE8: case STORE32: case STORE64:
                case SIZE: case GROW: case TRAP:
                    scanner.next();
                    readCall(sign, start, size);
                    break;
                case I32:
                case I64:
                    scanner.next();
                    readInParentheses();
                    add(STEP_CONVERT, sign, start, size, 0);
                    break;
                default:
                    readInParentheses();
                    break;
            }
        }

        private void readInParentheses() {
            take(Sign.LEFT);
            readX();
            take(Sign.RIGHT);
        }

        private void readCall(Sign sign, int start, int size) {
            take(Sign.LEFT);
            int given = scanner.sign == Sign.RIGHT ? 0 : readGiven();
            take(Sign.RIGHT);
            add(STEP_CALL, sign, start, size, given);
        }

        private int readGiven() {
            for (int n = 0; n <= PARAMETERS_MOST; n++) {
                if (n == PARAMETERS_MOST) {
                    refuseOneMore();
                }
                readX();
                if (scanner.sign != Sign.COMMA) {
                    return n + 1;
                }
                scanner.next();
            }
            return PARAMETERS_MOST;
        }

        private void enter() {
            if (open >= OPEN_MOST) {
                refuseOneMore();
            }
            open++;
        }

        private void refuseOneMore() {
            refuse(scanner.sign == Sign.WRONG ? CANNOT_STAND : TOO_MANY, scanner.place);
        }

        private void take(Sign sign) {
            if (scanner.sign != sign) {
                refuse(CANNOT_STAND, scanner.place);
            }
            scanner.next();
        }

        private int takeType() {
            Sign sign = scanner.sign;
            take(sign == Sign.I64 ? Sign.I64 : Sign.I32);
            return sign.type();
        }

        private void hold(Sign sign, int start) {
            if (waitingCount < waiting.length) {
                waiting[waitingCount] = sign;
                waitingPlaces[waitingCount] = start;
                waitingCount++;
            }
        }

        private void add(int kind, Sign sign, int start, int size, long value) {
            if (stepCount < STEPS_MOST) {
                kinds[stepCount] = kind;
                signs[stepCount] = sign;
                places[stepCount] = start;
                sizes[stepCount] = size;
                values[stepCount] = value;
                stepCount++;
            }
        }
    }

    /** Makes the bytes of a MODULE from a PROGRAM, and refuses what names and types forbid. */
    private static final class Coder {
        private final Program program;
        /** The locals known where the code is; their values are their indices. */
        private final Names known;
        private final int[] localTypes = new int[PROGRAM_LOCALS_MOST];
        private int localCount;
        /** Types of operands, and what is noted until an open S or sign in front ends. */
        private final int[] pending = new int[OPEN_MOST * (LEVEL_PRODUCT + PARAMETERS_MOST + 2)];
        private int pendingCount;
        private int gives;
        private int depth;
        /** The depth inside of the innermost loop, 0 in no while. */
        private int loopDepth;
        private final int[] typeOf = new int[PROGRAM_FUNCTIONS_MOST];
        private final ByteRow body = new ByteRow(MODULE_MOST);
        private final ByteRow codes = new ByteRow(MODULE_MOST);
        private final ByteRow section = new ByteRow(MODULE_MOST);

        Coder(Program program) {
            this.program = program;
            known = new Names(program.globals.text, PROGRAM_LOCALS_MOST);
        }

        void write(ByteRow out) {
            refuseRepeated(program.globals);
            refuseRepeated(program.functions);
            codes.length = 0;
            for (int f = 0; f < program.functions.length; f++) {
                codeFunction(f);
            }
            out.length = 0;
            for (int i = 0; i < HEAD.length; i++) {
                out.put(HEAD[i]);
            }
            writeTypes(out);
            writeFunctions(out);
            writeMemory(out);
            if (program.globals.length > 0) {
                writeGlobals(out);
            }
            writeExports(out);
            writeCodes(out);
        }

        private void refuseRepeated(Names names) {
            int repeated = names.firstRepeated();
            if (repeated >= 0) {
                program.refuse(NAME_TWICE, names.starts[repeated]);
            }
        }

        private void codeFunction(int f) {
            body.length = 0;
            known.length = 0;
            localCount = 0;
            pendingCount = 0;
            depth = 0;
            loopDepth = 0;
            gives = program.functions.types[f];
            int parametersEnd = program.parameterFirst[f + 1];
            for (int i = program.parameterFirst[f]; i < parametersEnd; i++) {
                addLocal(program.parameters.starts[i], program.parameters.sizes[i],
                        program.parameters.types[i], program.parameters.starts[i]);
            }
            int parameterCount = localCount;
            for (int i = program.stepFirst[f]; i < program.stepFirst[f + 1]; i++) {
                if (program.kinds[i] <= STEP_CALL) {
                    codeValue(i);
                } else if (program.kinds[i] <= STEP_LEAVE) {
                    codeStatement(i);
                } else {
                    codeBranching(i);
                }
            }
            if (gives != NOTHING) {
                body.put(OP_UNREACHABLE);
            }
            body.put(OP_END);
            keepCode(parameterCount);
        }

        private void addLocal(int start, int size, int type, int place) {
            if (known.indexOf(start, size) >= 0) {
                program.refuse(NAME_TWICE, place);
            }
            if (localCount >= PROGRAM_LOCALS_MOST) {
                program.refuse(TOO_MANY, place);
                return;
            }
            known.add(start, size, type, localCount);
            localTypes[localCount] = type;
            localCount++;
        }

        private void codeValue(int i) {
            Sign sign = program.signs[i];
            switch (program.kinds[i]) {
                case STEP_CONSTANT:
                    body.put(sign.type() == INT ? OP_CONST32 : OP_CONST64);
                    body.putSigned(program.values[i]);
                    push(sign.type());
                    break;
                case STEP_READ:
                    codeRead(i);
                    break;
                case STEP_HALFWAY:
                    codeHalfway(sign);
                    break;
                case STEP_TWO_SIDES:
                    codeTwoSides(sign, program.places[i]);
                    break;
                case STEP_PREFIX_BEGIN:
                    // the type of the 0 is known only behind the operand
                    push(body.length);
                    body.put(OP_CONST32);
                    body.put(0);
                    break;
                case STEP_PREFIX:
                    codePrefix(sign, program.places[i]);
                    break;
                case STEP_CONVERT:
                    codeConvert(sign, program.places[i]);
                    break;
                default:
                    if (sign == Sign.NAME) {
                        codeCall(i);
                    } else {
                        codeOwnCall(i);
                    }
                    break;
            }
        }

        private void codeRead(int i) {
            int start = program.places[i];
            int local = known.indexOf(start, program.sizes[i]);
            int global = program.globals.indexOf(start, program.sizes[i]);
            if (local >= 0) {
                body.put(OP_LOCAL_GET);
                body.putUnsigned((int) known.values[local]);
                push(known.types[local]);
            } else if (global >= 0) {
                body.put(OP_GLOBAL_GET);
                body.putUnsigned(global);
                push(program.globals.types[global]);
            } else {
                program.refuse(NO_SUCH_NAME, start);
            }
        }

        private void codeHalfway(Sign sign) {
            body.put(OP_IF);
            body.put(INT);
            if (sign == Sign.OR) {
                body.put(OP_CONST32);
                body.put(1);
                body.put(OP_ELSE);
            }
        }

        private void codeTwoSides(Sign sign, int place) {
            int right = pop();
            int left = pop();
            boolean logical = sign == Sign.OR || sign == Sign.AND;
            if (left != right || left == NOTHING || logical && left != INT) {
                program.refuse(WRONG_TYPE, place);
            }
            if (logical) {
                body.put(OP_CONST32);
                body.put(0);
            }
            body.put(left == INT ? sign.code32 : sign.code64);
            if (sign == Sign.AND) {
                body.put(OP_ELSE);
                body.put(OP_CONST32);
                body.put(0);
            }
            if (logical) {
                body.put(OP_END);
            }
            push(sign.level == LEVEL_COMPARE ? INT : left);
        }

        private void codePrefix(Sign sign, int place) {
            int type = pop();
            if (type == NOTHING || sign == Sign.NOT && type != INT) {
                program.refuse(WRONG_TYPE, place);
            }
            boolean isInt = type == INT;
            if (sign == Sign.NOT) {
                body.put(OP_EQZ32);
            } else if (sign == Sign.MINUS) {
                body.change(pop(), isInt ? OP_CONST32 : OP_CONST64);
                body.put(isInt ? OP_SUB32 : OP_SUB64);
            } else {
                body.put(isInt ? OP_CONST32 : OP_CONST64);
                body.putSigned(-1);
                body.put(isInt ? OP_XOR32 : OP_XOR64);
            }
            push(type);
        }

        private void codeConvert(Sign sign, int place) {
            int type = pop();
            if (type == NOTHING) {
                program.refuse(WRONG_TYPE, place);
            }
            if (type != sign.type()) {
                body.put(type == INT ? OP_EXTEND_S : OP_WRAP);
            }
            push(sign.type());
        }

        private void codeCall(int i) {
            int given = (int) program.values[i];
            int f = program.functions.indexOf(program.places[i], program.sizes[i]);
            if (f < 0) {
                program.refuse(NO_SUCH_NAME, program.places[i]);
                return;
            }
            int first = program.parameterFirst[f];
            boolean fits = program.parameterFirst[f + 1] - first == given;
            for (int k = given - 1; k >= 0; k--) {
                int type = pop();
                fits = fits && type == program.parameters.types[first + k];
            }
            if (!fits) {
                program.refuse(WRONG_TYPE, program.places[i]);
            }
            body.put(OP_CALL);
            body.putUnsigned(f);
            push(program.functions.types[f]);
        }

        /** A call of load8 .. trap. */
        private void codeOwnCall(int i) {
            Sign sign = program.signs[i];
            int given = (int) program.values[i];
            boolean fits = given == sign.takes();
            for (int k = given - 1; k >= 0; k--) {
                int type = pop();
                fits = fits && type == (k == 0 ? sign.takesFirst : sign.takesSecond);
            }
            if (!fits) {
                program.refuse(WRONG_TYPE, program.places[i]);
            }
            body.put(sign.code32);
            if (Codes.isAccess(sign.code32)) {
                body.put(Codes.greatestAlignment(sign.code32));
                body.put(0);
            } else if (sign != Sign.TRAP) {
                body.put(0);
            }
            push(sign.gives);
        }

        private void codeStatement(int i) {
            Sign sign = program.signs[i];
            int place = program.places[i];
            switch (program.kinds[i]) {
                case STEP_DECLARE:
                    if (pop() != sign.type()) {
                        program.refuse(WRONG_TYPE, place);
                    }
                    addLocal((int) program.values[i], program.sizes[i], sign.type(), place);
                    body.put(OP_LOCAL_SET);
                    body.putUnsigned(localCount - 1);
                    break;
                case STEP_ASSIGN:
                    codeAssign(i);
                    break;
                case STEP_DISCARD:
                    if (pop() != NOTHING) {
                        body.put(OP_DROP);
                    }
                    break;
                case STEP_RETURN:
                    boolean hasX = program.values[i] != 0;
                    int type = hasX ? pop() : NOTHING;
                    if (type != gives || hasX && gives == NOTHING) {
                        program.refuse(WRONG_TYPE, place);
                    }
                    body.put(OP_RETURN);
                    break;
                default:
                    if (loopDepth == 0) {
                        program.refuse(NO_WHILE, place);
                    }
                    body.put(OP_BR);
                    body.putUnsigned(depth - loopDepth + (sign == Sign.BREAK ? 1 : 0));
                    break;
            }
        }

        private void codeAssign(int i) {
            int start = program.places[i];
            int local = known.indexOf(start, program.sizes[i]);
            int global = program.globals.indexOf(start, program.sizes[i]);
            int type = pop();
            if (local < 0 && global < 0) {
                program.refuse(NO_SUCH_NAME, start);
                return;
            }
            if (type != (local >= 0 ? known.types[local] : program.globals.types[global])) {
                program.refuse(WRONG_TYPE, start);
            }
            body.put(local >= 0 ? OP_LOCAL_SET : OP_GLOBAL_SET);
            body.putUnsigned(local >= 0 ? (int) known.values[local] : global);
        }

        private void codeBranching(int i) {
            switch (program.kinds[i]) {
                case STEP_THEN:
                    takeCondition(program.places[i]);
                    body.put(OP_IF);
                    body.put(NOTHING);
                    depth++;
                    break;
                case STEP_OTHERWISE:
                    body.put(OP_ELSE);
                    break;
                case STEP_IF_END:
                    body.put(OP_END);
                    depth--;
                    break;
                case STEP_LOOP_BEGIN:
                    beginLoop();
                    break;
                case STEP_LOOP_TEST:
                    takeCondition(program.places[i]);
                    body.put(OP_EQZ32);
                    body.put(OP_BR_IF);
                    body.put(1);
                    break;
                case STEP_LOOP_END:
                    endLoop();
                    break;
                case STEP_BLOCK_BEGIN:
                    push(known.length);
                    break;
                default:
                    known.length = pop();
                    break;
            }
        }

        private void takeCondition(int place) {
            if (pop() != INT) {
                program.refuse(WRONG_TYPE, place);
            }
        }

        private void beginLoop() {
            push(loopDepth);
            body.put(OP_BLOCK);
            body.put(NOTHING);
            body.put(OP_LOOP);
            body.put(NOTHING);
            depth += 2;
            loopDepth = depth;
        }

        private void endLoop() {
            body.put(OP_BR);
            body.put(0);
            body.put(OP_END);
            body.put(OP_END);
            depth -= 2;
            loopDepth = pop();
        }

        private void keepCode(int parameterCount) {
            int runs = 0;
            for (int i = parameterCount; i < localCount; i++) {
                if (i == parameterCount || localTypes[i] != localTypes[i - 1]) {
                    runs++;
                }
            }
            section.length = 0;
            section.putUnsigned(runs);
            int run = 0;
            for (int i = parameterCount; i < localCount; i++) {
                run++;
                if (i + 1 == localCount || localTypes[i + 1] != localTypes[i]) {
                    section.putUnsigned(run);
                    section.put(localTypes[i]);
                    run = 0;
                }
            }
            codes.putUnsigned(section.length + body.length);
            codes.putPart(section, 0, section.length);
            codes.putPart(body, 0, body.length);
        }

        private void writeTypes(ByteRow out) {
            int typeCount = 0;
            for (int f = 0; f < program.functions.length; f++) {
                typeOf[f] = typeCount;
                for (int g = f - 1; g >= 0; g--) {
                    if (isSameType(f, g)) {
                        typeOf[f] = typeOf[g];
                    }
                }
                if (typeOf[f] == typeCount) {
                    typeCount++;
                }
            }
            section.length = 0;
            section.putUnsigned(typeCount);
            int written = 0;
            for (int f = 0; f < program.functions.length; f++) {
                if (typeOf[f] == written) {
                    writeType(f);
                    written++;
                }
            }
            putSection(out, SECTION_TYPES);
        }

        private boolean isSameType(int f, int g) {
            int first = program.parameterFirst[f];
            int other = program.parameterFirst[g];
            int takes = program.parameterFirst[f + 1] - first;
            if (program.functions.types[f] != program.functions.types[g]
                    || takes != program.parameterFirst[g + 1] - other) {
                return false;
            }
            for (int k = 0; k < takes; k++) {
                if (program.parameters.types[first + k] != program.parameters.types[other + k]) {
                    return false;
                }
            }
            return true;
        }

        private void writeType(int f) {
            int first = program.parameterFirst[f];
            int takes = program.parameterFirst[f + 1] - first;
            section.put(FUNCTION_TYPE);
            section.putUnsigned(takes);
            for (int k = 0; k < takes; k++) {
                section.put(program.parameters.types[first + k]);
            }
            boolean hasType = program.functions.types[f] != NOTHING;
            section.put(hasType ? 1 : 0);
            if (hasType) {
                section.put(program.functions.types[f]);
            }
        }

        private void writeFunctions(ByteRow out) {
            section.length = 0;
            section.putUnsigned(program.functions.length);
            for (int f = 0; f < program.functions.length; f++) {
                section.putUnsigned(typeOf[f]);
            }
            putSection(out, SECTION_FUNCTIONS);
        }

        private void writeMemory(ByteRow out) {
            section.length = 0;
            section.put(1);
            section.put(1);
            section.put(1);
            section.put(PAGES_MOST);
            putSection(out, SECTION_MEMORY);
        }

        private void writeGlobals(ByteRow out) {
            section.length = 0;
            section.putUnsigned(program.globals.length);
            for (int g = 0; g < program.globals.length; g++) {
                section.put(program.globals.types[g]);
                section.put(1);
                section.put(program.globals.types[g] == INT ? OP_CONST32 : OP_CONST64);
                section.putSigned(program.globals.values[g]);
                section.put(OP_END);
            }
            putSection(out, SECTION_GLOBALS);
        }

        private void writeExports(ByteRow out) {
            Names functions = program.functions;
            section.length = 0;
            section.putUnsigned(functions.length + 1);
            for (int f = 0; f < functions.length; f++) {
                section.putUnsigned(functions.sizes[f]);
                section.putPart(functions.text, functions.starts[f], functions.sizes[f]);
                section.put(KIND_FUNCTION);
                section.putUnsigned(f);
            }
            section.putUnsigned(Sign.MEMORY.text.length());
            section.putText(Sign.MEMORY.text);
            section.put(KIND_MEMORY);
            section.putUnsigned(0);
            putSection(out, SECTION_EXPORTS);
        }

        private void writeCodes(ByteRow out) {
            section.length = 0;
            section.putUnsigned(program.functions.length);
            section.putPart(codes, 0, codes.length);
            putSection(out, SECTION_CODES);
        }

        private void putSection(ByteRow out, int id) {
            out.put(id);
            out.putUnsigned(section.length);
            out.putPart(section, 0, section.length);
        }

        private void push(int value) {
            if (pendingCount < pending.length) {
                pending[pendingCount++] = value;
            }
        }

        private int pop() {
            return pendingCount > 0 ? pending[--pendingCount] : NOTHING;
        }
    }

    /** A module: its bytes, and what the reader found in them. */
    private static final class Wafer {
        final ByteRow bytes = new ByteRow(MODULE_MOST);
        final Codes codes = new Codes();
        int typeCount;
        final int[] typeTakes = new int[TYPES_MOST];
        final int[] typeParameters = new int[TYPES_MOST * PARAMETERS_MOST];
        final int[] typeGives = new int[TYPES_MOST];
        int functionCount;
        final int[] functionType = new int[FUNCTIONS_MOST];
        boolean hasMemory;
        long pagesLeast;
        /** -1: none is told. */
        long pagesMost;
        int globalCount;
        final int[] globalTypes = new int[GLOBALS_MOST];
        final int[] firstTypes = new int[GLOBALS_MOST];
        final long[] firstValues = new long[GLOBALS_MOST];
        final boolean[] globalChanges = new boolean[GLOBALS_MOST];
        int exportCount;
        final int[] exportKinds = new int[EXPORTS_MOST];
        final int[] exportIndices = new int[EXPORTS_MOST];
        final int[] exportStarts = new int[EXPORTS_MOST];
        final int[] exportSizes = new int[EXPORTS_MOST];

        void clear() {
            codes.length = 0;
            codes.labelCount = 0;
            typeCount = 0;
            functionCount = 0;
            hasMemory = false;
            pagesLeast = 0;
            pagesMost = -1;
            globalCount = 0;
            exportCount = 0;
        }

        int exportedFunction(ByteRow name) {
            for (int e = 0; e < exportCount; e++) {
                boolean same = exportKinds[e] == KIND_FUNCTION && exportSizes[e] == name.length;
                for (int i = 0; same && i < name.length; i++) {
                    same = bytes.at(exportStarts[e] + i) == name.at(i);
                }
                if (same) {
                    return exportIndices[e];
                }
            }
            return -1;
        }

        int takes(int f) {
            return typeTakes[functionType[f]];
        }

        int gives(int f) {
            return typeGives[functionType[f]];
        }

        int localCount(int f) {
            return takes(f) + codes.localCounts[f];
        }

        /** The type of local i of function f, UNKNOWN if it has none such. */
        int localType(int f, int i) {
            int takes = takes(f);
            if (i < 0 || i >= takes + codes.localCounts[f]) {
                return UNKNOWN;
            }
            return i < takes ? typeParameters[functionType[f] * PARAMETERS_MOST + i]
                    : codes.localTypes[f * LOCALS_MOST + i - takes];
        }
    }

    /** The instructions of a module's functions, one behind the other. */
    private static final class Codes {
        final int[] firsts = new int[FUNCTIONS_MOST + 1];
        final int[] localCounts = new int[FUNCTIONS_MOST];
        final int[] localTypes = new int[FUNCTIONS_MOST * LOCALS_MOST];
        int length;
        final int[] ops = new int[INSTRUCTIONS_MOST];
        /** A constant, an index, an offset, a block's type, or where the labels of br_table begin. */
        final long[] values = new long[INSTRUCTIONS_MOST];
        /** The end of a block or else, the alignment of an access, or how many labels besides the last. */
        final int[] partners = new int[INSTRUCTIONS_MOST];
        /** The else of an if, -1 without. */
        final int[] elses = new int[INSTRUCTIONS_MOST];
        int labelCount;
        final int[] labels = new int[TAPE_MOST];

        static boolean isAccess(int op) {
            return accessBytes(op) > 0;
        }

        static int accessBytes(int op) {
            switch (op) {
                case OP_LOAD8_S: case OP_LOAD8_U: case OP_STORE8:
                    return 1;
                case OP_LOAD32: case OP_STORE32:
                    return 4;
                case OP_LOAD64: case OP_STORE64:
                    return 8;
                default:
                    return 0;
            }
        }

        /** As a power of 2. */
        static int greatestAlignment(int op) {
            return Integer.numberOfTrailingZeros(accessBytes(op));
        }

        static boolean isStore(int op) {
            return op == OP_STORE8 || op == OP_STORE32 || op == OP_STORE64;
        }

        /** Whether the instruction reckons: takes one or two numbers and gives one. */
        static boolean isNumeric(int op) {
            return op >= OP_EQZ32 && op <= OP_GE_U64 || op >= OP_CLZ32 && op <= OP_ROTR64
                    || op == OP_WRAP || op == OP_EXTEND_S || op == OP_EXTEND_U;
        }

        static boolean takesOne(int op) {
            return op == OP_EQZ32 || op == OP_EQZ64 || op >= OP_CLZ32 && op < OP_ADD32
                    || op >= OP_CLZ64 && op < OP_ADD64 || op > OP_ROTR64;
        }

        static int operandType(int op) {
            return op >= OP_EQZ64 && op <= OP_GE_U64 || op >= OP_CLZ64 && op <= OP_ROTR64
                    || op == OP_WRAP ? LONG : INT;
        }

        static int resultType(int op) {
            return op <= OP_ROTR32 || op == OP_WRAP ? INT : LONG;
        }
    }

    /** Reads a module's bytes into its tables. */
    private static final class Reader {
        private Wafer wafer;
        private Codes codes;
        private int at;
        private int limit;
        private boolean sound;
        private int codeCount;
        private final int[] openBlocks = new int[BLOCKS_MOST];
        private int openCount;

        /** Whether the bytes are READ. */
        boolean read(Wafer given) {
            wafer = given;
            codes = given.codes;
            wafer.clear();
            at = 0;
            limit = wafer.bytes.length;
            sound = true;
            codeCount = 0;
            for (int i = 0; i < HEAD.length; i++) {
                expect(HEAD[i]);
            }
            int former = 0;
            for (int n = 0; n < MODULE_MOST && sound && at < wafer.bytes.length; n++) {
                int id = next();
                int size = (int) readUnsigned(wafer.bytes.length);
                sound = sound && size <= wafer.bytes.length - at && (id == SECTION_OTHER || id > former);
                if (sound) {
                    former = id == SECTION_OTHER ? former : id;
                    limit = at + size;
                    readSection(id);
                    sound = sound && at == limit;
                    limit = wafer.bytes.length;
                }
            }
            return sound && codeCount == wafer.functionCount;
        }

        private void readSection(int id) {
            switch (id) {
                case SECTION_OTHER:
                    int size = (int) readUnsigned(limit);
                    sound = sound && size <= limit - at;
                    at = limit;
                    break;
                case SECTION_TYPES:
                    readTypes();
                    break;
                case SECTION_FUNCTIONS:
                    wafer.functionCount = (int) readUnsigned(FUNCTIONS_MOST);
                    for (int f = 0; f < wafer.functionCount; f++) {
                        wafer.functionType[f] = (int) readUnsigned(INDEX_MOST);
                    }
                    break;
                case SECTION_MEMORY:
                    readMemory();
                    break;
                case SECTION_GLOBALS:
                    readGlobals();
                    break;
                case SECTION_EXPORTS:
                    readExports();
                    break;
                case SECTION_CODES:
                    codeCount = (int) readUnsigned(FUNCTIONS_MOST);
                    for (int c = 0; c < codeCount && sound; c++) {
                        readCode(c);
                    }
                    break;
                default:
                    sound = false;
                    break;
            }
        }

        private void readTypes() {
            wafer.typeCount = (int) readUnsigned(TYPES_MOST);
            for (int t = 0; t < wafer.typeCount && sound; t++) {
                expect(FUNCTION_TYPE);
                int takes = (int) readUnsigned(PARAMETERS_MOST);
                wafer.typeTakes[t] = takes;
                for (int p = 0; p < takes; p++) {
                    wafer.typeParameters[t * PARAMETERS_MOST + p] = readType();
                }
                wafer.typeGives[t] = readUnsigned(1) == 1 ? readType() : NOTHING;
            }
        }

        private void readMemory() {
            wafer.hasMemory = readUnsigned(1) == 1;
            if (wafer.hasMemory) {
                int flag = readFlag();
                wafer.pagesLeast = readUnsigned(NUMBER_MOST);
                wafer.pagesMost = flag == 1 ? readUnsigned(NUMBER_MOST) : -1;
            }
        }

        private void readGlobals() {
            wafer.globalCount = (int) readUnsigned(GLOBALS_MOST);
            for (int g = 0; g < wafer.globalCount && sound; g++) {
                wafer.globalTypes[g] = readType();
                wafer.globalChanges[g] = readFlag() == 1;
                int op = next();
                sound = sound && (op == OP_CONST32 || op == OP_CONST64);
                wafer.firstTypes[g] = op == OP_CONST32 ? INT : LONG;
                wafer.firstValues[g] = readSigned(op == OP_CONST32 ? 32 : 64);
                expect(OP_END);
            }
        }

        private void readExports() {
            wafer.exportCount = (int) readUnsigned(EXPORTS_MOST);
            for (int e = 0; e < wafer.exportCount && sound; e++) {
                int size = (int) readUnsigned(EXPORT_NAME_MOST);
                wafer.exportStarts[e] = at;
                wafer.exportSizes[e] = size;
                for (int i = 0; i < size; i++) {
                    next();
                }
                int kind = next();
                sound = sound && (kind == KIND_FUNCTION || kind == KIND_MEMORY || kind == KIND_GLOBAL);
                wafer.exportKinds[e] = kind;
                wafer.exportIndices[e] = (int) readUnsigned(INDEX_MOST);
            }
        }

        private void readCode(int f) {
            int sectionLimit = limit;
            int size = (int) readUnsigned(wafer.bytes.length);
            sound = sound && size <= limit - at;
            if (!sound) {
                return;
            }
            limit = at + size;
            codes.firsts[f] = codes.length;
            readLocals(f);
            openCount = 0;
            boolean more = true;
            for (int n = 0; n <= INSTRUCTIONS_MOST && sound && more; n++) {
                more = readInstruction();
            }
            codes.firsts[f + 1] = codes.length;
            sound = sound && at == limit;
            limit = sectionLimit;
        }

        private void readLocals(int f) {
            int total = 0;
            int runs = (int) readUnsigned(LOCALS_MOST);
            for (int r = 0; r < runs && sound; r++) {
                int size = (int) readUnsigned(LOCALS_MOST - total);
                int type = readType();
                for (int i = 0; i < size; i++) {
                    codes.localTypes[f * LOCALS_MOST + total + i] = type;
                }
                total += size;
            }
            codes.localCounts[f] = total;
        }

        /** Answers false behind the end of the code. */
        private boolean readInstruction() {
            int op = next();
            int i = codes.length;
            sound = sound && i < INSTRUCTIONS_MOST;
            if (!sound) {
                return false;
            }
            codes.length++;
            codes.ops[i] = op;
            codes.values[i] = 0;
            codes.partners[i] = 0;
            codes.elses[i] = -1;
            switch (op) {
                case OP_BLOCK: case OP_LOOP: case OP_IF:
                    openBlock(i);
                    break;
                case OP_ELSE:
                    turnToElse(i);
                    break;
                case OP_END:
                    return closeBlock(i);
                case OP_BR: case OP_BR_IF: case OP_CALL: case OP_LOCAL_GET: case OP_LOCAL_SET:
                case OP_LOCAL_TEE: case OP_GLOBAL_GET: case OP_GLOBAL_SET:
                    codes.values[i] = readUnsigned(INDEX_MOST);
                    break;
                case OP_BR_TABLE:
                    readTable(i);
                    break;
                case OP_SIZE: case OP_GROW:
                    expect(0);
                    break;
                case OP_CONST32:
                    codes.values[i] = readSigned(32);
                    break;
                case OP_CONST64:
                    codes.values[i] = readSigned(64);
                    break;
                default:
                    readOther(i, op);
                    break;
            }
            return true;
        }

        private void openBlock(int i) {
            int type = next();
            sound = sound && openCount < BLOCKS_MOST && (type == NOTHING || type == INT || type == LONG);
            if (sound) {
                codes.values[i] = type;
                openBlocks[openCount++] = i;
            }
        }

        private void turnToElse(int i) {
            int top = openCount > 0 ? openBlocks[openCount - 1] : -1;
            sound = top >= 0 && codes.ops[top] == OP_IF && codes.elses[top] < 0;
            if (sound) {
                codes.elses[top] = i;
            }
        }

        private boolean closeBlock(int i) {
            if (openCount == 0) {
                return false;
            }
            openCount--;
            int top = openBlocks[openCount];
            codes.partners[top] = i;
            if (codes.elses[top] >= 0) {
                codes.partners[codes.elses[top]] = i;
            }
            return true;
        }

        private void readTable(int i) {
            int besides = (int) readUnsigned(LABELS_MOST);
            sound = sound && codes.labelCount + besides < codes.labels.length;
            if (sound) {
                codes.values[i] = codes.labelCount;
                codes.partners[i] = besides;
                for (int k = 0; k <= besides; k++) {
                    codes.labels[codes.labelCount++] = (int) readUnsigned(INDEX_MOST);
                }
            }
        }

        private void readOther(int i, int op) {
            if (Codes.isAccess(op)) {
                codes.partners[i] = (int) readUnsigned(INDEX_MOST);
                codes.values[i] = readUnsigned(NUMBER_MOST);
            } else {
                sound = Codes.isNumeric(op) || op == OP_UNREACHABLE || op == OP_NOP || op == OP_RETURN
                        || op == OP_DROP || op == OP_SELECT;
            }
        }

        private int readType() {
            int type = next();
            sound = sound && (type == INT || type == LONG);
            return type;
        }

        private int readFlag() {
            int flag = next();
            sound = sound && flag <= 1;
            return flag;
        }

        /** A number without sign; more than the most is not READ. */
        private long readUnsigned(long most) {
            long value = 0;
            for (int shift = 0; shift < 35; shift += 7) {
                int part = next();
                value |= (long) (part & 0x7F) << shift;
                if (part < 0x80) {
                    sound = sound && value <= most;
                    return sound ? value : 0;
                }
            }
            sound = false;
            return 0;
        }

        /** A number with sign; the last byte's bits above the number must repeat its sign. */
        private long readSigned(int bits) {
            long value = 0;
            for (int shift = 0; shift < bits; shift += 7) {
                int part = next();
                value |= (long) (part & 0x7F) << shift;
                if (part < 0x80) {
                    // as if the 7 bits stood at the top of 32, so that >> spreads their sign
                    int spread = part << 25 >> 25;
                    int above = bits - shift > 7 ? 0 : spread >> bits - shift - 1;
                    sound = sound && (above == 0 || above == -1);
                    return shift + 7 < 64 && spread < 0 ? value | -1L << shift + 7 : value;
                }
            }
            sound = false;
            return 0;
        }

        private void expect(int value) {
            sound = next() == value && sound;
        }

        private int next() {
            if (!sound || at >= limit) {
                sound = false;
                return 0;
            }
            return wafer.bytes.bytes[at++] & 0xFF;
        }
    }

    /** Tells whether a module that was READ is VALID. */
    private static final class Validator {
        private Wafer wafer;
        private Codes codes;
        private boolean sound;
        private int function;
        private final int[] types = new int[INSTRUCTIONS_MOST];
        private int height;
        private final int[] blockOps = new int[BLOCKS_MOST + 1];
        private final int[] blockGives = new int[BLOCKS_MOST + 1];
        private final int[] blockHeights = new int[BLOCKS_MOST + 1];
        private final boolean[] blockDead = new boolean[BLOCKS_MOST + 1];
        private int depth;

        boolean check(Wafer given) {
            wafer = given;
            codes = given.codes;
            sound = true;
            checkTables();
            checkExports();
            for (int f = 0; f < wafer.functionCount && sound; f++) {
                checkFunction(f);
            }
            return sound;
        }

        private void checkTables() {
            for (int f = 0; f < wafer.functionCount; f++) {
                sound = sound && wafer.functionType[f] < wafer.typeCount;
            }
            for (int g = 0; g < wafer.globalCount; g++) {
                sound = sound && wafer.globalTypes[g] == wafer.firstTypes[g];
            }
            sound = sound && wafer.pagesLeast <= PAGES_MOST && wafer.pagesMost <= FORMAL_PAGES_MOST
                    && (wafer.pagesMost < 0 || wafer.pagesMost >= wafer.pagesLeast);
        }

        private void checkExports() {
            for (int e = 0; e < wafer.exportCount; e++) {
                int there = wafer.exportKinds[e] == KIND_FUNCTION ? wafer.functionCount
                        : wafer.exportKinds[e] == KIND_GLOBAL ? wafer.globalCount
                        : wafer.hasMemory ? 1 : 0;
                sound = sound && wafer.exportIndices[e] < there;
                for (int other = 0; other < e; other++) {
                    sound = sound && (wafer.exportSizes[e] != wafer.exportSizes[other]
                            || !wafer.bytes.samePart(wafer.exportStarts[e], wafer.exportStarts[other],
                                    wafer.exportSizes[e]));
                }
            }
        }

        private void checkFunction(int f) {
            function = f;
            height = 0;
            depth = 0;
            open(OP_BLOCK, wafer.gives(f));
            for (int i = codes.firsts[f]; i < codes.firsts[f + 1] && sound; i++) {
                int op = codes.ops[i];
                if (op <= OP_ELSE || op == OP_END) {
                    checkBlocks(op, (int) codes.values[i]);
                } else if (op <= OP_CALL) {
                    checkJump(op, i);
                } else if (op <= OP_GLOBAL_SET) {
                    checkVariable(op, (int) codes.values[i]);
                } else if (op <= OP_GROW) {
                    checkMemory(op, codes.partners[i]);
                } else {
                    checkNumber(op);
                }
            }
        }

        private void checkBlocks(int op, int type) {
            switch (op) {
                case OP_UNREACHABLE:
                    die();
                    break;
                case OP_NOP:
                    break;
                case OP_IF:
                    pop(INT);
                    open(op, type);
                    break;
                case OP_ELSE:
                    close();
                    open(op, blockGives[depth]);
                    break;
                case OP_END:
                    close();
                    // an if without else gives nothing where its condition fails
                    sound = sound && (blockOps[depth] != OP_IF || blockGives[depth] == NOTHING);
                    if (depth > 0) {
                        push(blockGives[depth]);
                    }
                    break;
                default:
                    open(op, type);
                    break;
            }
        }

        private void checkJump(int op, int i) {
            int value = (int) codes.values[i];
            switch (op) {
                case OP_BR:
                    pop(labelType(value));
                    die();
                    break;
                case OP_BR_IF:
                    pop(INT);
                    pop(labelType(value));
                    push(labelType(value));
                    break;
                case OP_BR_TABLE:
                    checkTable(value, codes.partners[i]);
                    break;
                case OP_RETURN:
                    pop(wafer.gives(function));
                    die();
                    break;
                default:
                    checkCall(value);
                    break;
            }
        }

        private void checkTable(int first, int besides) {
            int type = labelType(codes.labels[first + besides]);
            for (int k = 0; k < besides; k++) {
                // the label may be found wrong itself, so it is looked at before sound is
                int other = labelType(codes.labels[first + k]);
                sound = sound && other == type;
            }
            pop(INT);
            pop(type);
            die();
        }

        private void checkCall(int f) {
            if (f >= wafer.functionCount) {
                sound = false;
                return;
            }
            for (int p = wafer.takes(f) - 1; p >= 0; p--) {
                pop(wafer.localType(f, p));
            }
            push(wafer.gives(f));
        }

        private void checkVariable(int op, int index) {
            if (op == OP_DROP) {
                popAny();
                return;
            }
            if (op == OP_SELECT) {
                checkSelect();
                return;
            }
            boolean isGlobal = op >= OP_GLOBAL_GET;
            int type = !isGlobal ? wafer.localType(function, index)
                    : index < wafer.globalCount ? wafer.globalTypes[index] : UNKNOWN;
            if (type == UNKNOWN || op == OP_GLOBAL_SET && !wafer.globalChanges[index]) {
                sound = false;
                return;
            }
            if (op == OP_LOCAL_SET || op == OP_LOCAL_TEE || op == OP_GLOBAL_SET) {
                pop(type);
            }
            if (op == OP_LOCAL_GET || op == OP_LOCAL_TEE || op == OP_GLOBAL_GET) {
                push(type);
            }
        }

        private void checkSelect() {
            pop(INT);
            int one = popAny();
            int other = popAny();
            sound = sound && (one == other || one == UNKNOWN || other == UNKNOWN);
            push(one == UNKNOWN ? other : one);
        }

        private void checkMemory(int op, int alignment) {
            sound = sound && wafer.hasMemory && (!Codes.isAccess(op) || alignment <= Codes.greatestAlignment(op));
            int type = op == OP_LOAD64 || op == OP_STORE64 ? LONG : INT;
            if (Codes.isStore(op)) {
                pop(type);
                pop(INT);
                return;
            }
            if (op != OP_SIZE) {
                pop(INT);
            }
            push(type);
        }

        private void checkNumber(int op) {
            if (op == OP_CONST32 || op == OP_CONST64) {
                push(op == OP_CONST32 ? INT : LONG);
                return;
            }
            pop(Codes.operandType(op));
            if (!Codes.takesOne(op)) {
                pop(Codes.operandType(op));
            }
            push(Codes.resultType(op));
        }

        private void open(int op, int gives) {
            if (depth < blockOps.length) {
                blockOps[depth] = op;
                blockGives[depth] = gives;
                blockHeights[depth] = height;
                blockDead[depth] = false;
                depth++;
            }
        }

        /** Leaves the innermost block, whose row stays readable at the new depth. */
        private void close() {
            if (depth > 0) {
                pop(blockGives[depth - 1]);
                sound = sound && height == blockHeights[depth - 1];
                depth--;
            }
        }

        /** What follows can't be reached: any operands may be thought there. */
        private void die() {
            if (depth > 0) {
                height = blockHeights[depth - 1];
                blockDead[depth - 1] = true;
            }
        }

        private int labelType(int label) {
            if (label >= depth) {
                sound = false;
                return NOTHING;
            }
            int block = depth - 1 - label;
            return blockOps[block] == OP_LOOP ? NOTHING : blockGives[block];
        }

        private void push(int type) {
            if (type != NOTHING && height < types.length) {
                types[height++] = type;
            }
        }

        private void pop(int wanted) {
            if (wanted != NOTHING) {
                int type = popAny();
                sound = sound && (type == wanted || type == UNKNOWN);
            }
        }

        private int popAny() {
            if (depth > 0 && height > blockHeights[depth - 1]) {
                height--;
                return types[height];
            }
            sound = sound && depth > 0 && blockDead[depth - 1];
            return UNKNOWN;
        }
    }

    /** Runs the functions of a module. An i32 is kept as the long of the same number. */
    private static final class Machine {
        int pages;
        int steps;
        int reason;
        final long[] globals = new long[GLOBALS_MOST];
        private Wafer wafer;
        private Codes codes;
        /** The bytes of the memory, eight in each, the lowest first. */
        private final long[] cells = new long[PAGES_MOST * PAGE / 8];
        /** Of each open call its parameters, locals and values. */
        private final long[] stack = new long[STACK_MOST];
        private int height;
        private final int[] frameBacks = new int[FRAMES_MOST];
        private final int[] frameBases = new int[FRAMES_MOST];
        private final int[] frameFunctions = new int[FRAMES_MOST];
        private final int[] frameLabels = new int[FRAMES_MOST];
        private int frameCount;
        private final int[] labelBlocks = new int[FRAMES_MOST * BLOCKS_MOST];
        private final int[] labelHeights = new int[FRAMES_MOST * BLOCKS_MOST];
        private int labelCount;
        private int at;

        void load(Wafer given) {
            wafer = given;
            codes = given.codes;
            pages = (int) wafer.pagesLeast;
            Arrays.fill(cells, 0L);
            for (int g = 0; g < wafer.globalCount; g++) {
                globals[g] = wafer.firstValues[g];
            }
        }

        int byteAt(int i) {
            int cell = i >> 3;
            return cell >= 0 && cell < cells.length ? (int) (cells[cell] >>> (i & 7) * 8) & 0xFF : 0;
        }

        /** The function's result, 0 without; the reason tells what ended it. */
        long run(int f, long[] arguments) {
            reason = 0;
            steps = 0;
            height = 0;
            frameCount = 0;
            labelCount = 0;
            for (int p = 0; p < wafer.takes(f); p++) {
                push(wafer.localType(f, p) == INT ? (int) arguments[p] : arguments[p]);
            }
            enter(f);
            // an else or end is no step, but each has a block or call of its own that was one
            for (int n = 0; n < 4 * MACHINE_STEPS_MOST && frameCount > 0 && reason == 0; n++) {
                step();
            }
            return reason == 0 && height > 0 ? stack[0] : 0;
        }

        private void step() {
            int i = at;
            if (i < 0 || i >= codes.length) {
                frameCount = 0;
                return;
            }
            int op = codes.ops[i];
            at++;
            if (op == OP_END) {
                leaveBlock();
                return;
            }
            if (op == OP_ELSE) {
                at = codes.partners[i];
                return;
            }
            steps++;
            if (steps > MACHINE_STEPS_MOST) {
                reason = TOO_LONG;
            } else if (op <= OP_CALL) {
                perform(op, i);
            } else if (op <= OP_GLOBAL_SET) {
                performVariable(op, (int) codes.values[i]);
            } else if (op <= OP_GROW) {
                performMemory(op, codes.values[i]);
            } else if (op <= OP_CONST64) {
                push(codes.values[i]);
            } else if (Codes.takesOne(op)) {
                push(ofOne(op, pop()));
            } else {
                performTwo(op);
            }
        }

        private void perform(int op, int i) {
            int value = (int) codes.values[i];
            switch (op) {
                case OP_UNREACHABLE:
                    reason = UNREACHABLE_MET;
                    break;
                case OP_BLOCK: case OP_LOOP:
                    enterBlock(i);
                    break;
                case OP_IF:
                    performIf(i);
                    break;
                case OP_BR:
                    branch(value);
                    break;
                case OP_BR_IF:
                    if (pop() != 0) {
                        branch(value);
                    }
                    break;
                case OP_BR_TABLE:
                    long chosen = pop() & 0xFFFFFFFFL;
                    branch(codes.labels[value + (int) Math.min(chosen, codes.partners[i])]);
                    break;
                case OP_RETURN:
                    leaveFunction();
                    break;
                case OP_CALL:
                    enter(value);
                    break;
                default:
                    break;
            }
        }

        private void performIf(int i) {
            if (pop() != 0) {
                enterBlock(i);
            } else if (codes.elses[i] >= 0) {
                enterBlock(i);
                at = codes.elses[i] + 1;
            } else {
                at = codes.partners[i] + 1;
            }
        }

        private void enterBlock(int i) {
            if (labelCount < labelBlocks.length) {
                labelBlocks[labelCount] = i;
                labelHeights[labelCount] = height;
                labelCount++;
            }
        }

        private void leaveBlock() {
            if (frameCount > 0 && labelCount > frameLabels[frameCount - 1]) {
                labelCount--;
            } else {
                leaveFunction();
            }
        }

        private void branch(int label) {
            int target = labelCount - 1 - label;
            if (frameCount == 0 || target < frameLabels[frameCount - 1]) {
                leaveFunction();
                return;
            }
            int block = labelBlocks[target];
            if (codes.ops[block] == OP_LOOP) {
                height = labelHeights[target];
                labelCount = target + 1;
                at = block + 1;
            } else {
                keepTop(labelHeights[target], codes.values[block] != NOTHING);
                labelCount = target;
                at = codes.partners[block] + 1;
            }
        }

        /** Its parameters lie on the stack already. */
        private void enter(int f) {
            int locals = wafer.codes.localCounts[f];
            if (frameCount >= FRAMES_MOST || locals > STACK_MOST - height) {
                reason = NO_ROOM;
                return;
            }
            frameBacks[frameCount] = at;
            frameBases[frameCount] = height - wafer.takes(f);
            frameFunctions[frameCount] = f;
            frameLabels[frameCount] = labelCount;
            frameCount++;
            for (int k = 0; k < locals; k++) {
                push(0);
            }
            at = codes.firsts[f];
        }

        private void leaveFunction() {
            if (frameCount > 0) {
                frameCount--;
                keepTop(frameBases[frameCount], wafer.gives(frameFunctions[frameCount]) != NOTHING);
                labelCount = frameLabels[frameCount];
                at = frameBacks[frameCount];
            }
        }

        private void keepTop(int floor, boolean keeps) {
            long top = keeps ? pop() : 0;
            height = floor;
            if (keeps) {
                push(top);
            }
        }

        private void performVariable(int op, int index) {
            int local = frameCount > 0 ? frameBases[frameCount - 1] + index : 0;
            switch (op) {
                case OP_DROP:
                    pop();
                    break;
                case OP_SELECT:
                    boolean first = pop() != 0;
                    long other = pop();
                    long one = pop();
                    push(first ? one : other);
                    break;
                case OP_LOCAL_GET:
                    push(stack[local]);
                    break;
                case OP_LOCAL_SET:
                    stack[local] = pop();
                    break;
                case OP_LOCAL_TEE:
                    stack[local] = stack[height - 1];
                    break;
                case OP_GLOBAL_GET:
                    push(globals[index]);
                    break;
                default:
                    globals[index] = pop();
                    break;
            }
        }

        private void performMemory(int op, long offset) {
            if (op == OP_SIZE) {
                push(pages);
                return;
            }
            if (op == OP_GROW) {
                grow();
                return;
            }
            long value = Codes.isStore(op) ? pop() : 0;
            long address = (pop() & 0xFFFFFFFFL) + offset;
            int size = Codes.accessBytes(op);
            if (address + size > (long) pages * PAGE) {
                reason = OUTSIDE_MEMORY;
            } else if (Codes.isStore(op)) {
                store((int) address, size, value);
            } else {
                push(load((int) address, size, op == OP_LOAD8_U));
            }
        }

        private void grow() {
            long more = pop() & 0xFFFFFFFFL;
            long most = wafer.pagesMost < 0 ? PAGES_MOST : Math.min(PAGES_MOST, wafer.pagesMost);
            if (pages + more > most) {
                push(-1);
            } else {
                push(pages);
                pages += (int) more;
            }
        }

        private long load(int address, int size, boolean unsigned) {
            long value = 0;
            for (int k = size - 1; k >= 0; k--) {
                value = value << 8 | byteAt(address + k);
            }
            int unused = 64 - 8 * size;
            return unsigned ? value : value << unused >> unused;
        }

        private void store(int address, int size, long value) {
            for (int k = 0; k < size; k++) {
                int cell = address + k >> 3;
                int shift = (address + k & 7) * 8;
                long part = (value >>> 8 * k & 0xFF) << shift;
                if (cell >= 0 && cell < cells.length) {
                    cells[cell] = cells[cell] & ~(0xFFL << shift) | part;
                }
            }
        }

        private static long ofOne(int op, long a) {
            switch (op) {
                case OP_EQZ32: case OP_EQZ64:
                    return a == 0 ? 1 : 0;
                case OP_CLZ32:
                    return Integer.numberOfLeadingZeros((int) a);
                case OP_CLZ32 + 1:
                    return Integer.numberOfTrailingZeros((int) a);
                case OP_CLZ32 + 2:
                    return Integer.bitCount((int) a);
                case OP_CLZ64:
                    return Long.numberOfLeadingZeros(a);
                case OP_CLZ64 + 1:
                    return Long.numberOfTrailingZeros(a);
                case OP_CLZ64 + 2:
                    return Long.bitCount(a);
                case OP_EXTEND_U:
                    return a & 0xFFFFFFFFL;
                default:
                    // wrap; extend_s finds the number extended already
                    return (int) a;
            }
        }

        private void performTwo(int op) {
            long b = pop();
            long a = pop();
            if (op < OP_CLZ32) {
                boolean holds = compares(op < OP_EQZ64 ? op - OP_EQ32 : op - OP_EQ64, a, b);
                push(holds ? 1 : 0);
                return;
            }
            boolean isInt = op <= OP_ROTR32;
            int kind = isInt ? op - OP_ADD32 : op - OP_ADD64;
            if (kind >= 3 && kind <= 6) {
                divide(kind, a, b, isInt);
            } else if (isInt) {
                push(ofInts(kind, (int) a, (int) b));
            } else {
                push(ofLongs(kind, a, b));
            }
        }

        /** Also of i32 without sign: their order stays as it is when their signs spread. */
        private static boolean compares(int kind, long a, long b) {
            switch (kind) {
                case 0:
                    return a == b;
                case 1:
                    return a != b;
                case 2:
                    return a < b;
                case 3:
                    return Long.compareUnsigned(a, b) < 0;
                case 4:
                    return a > b;
                case 5:
                    return Long.compareUnsigned(a, b) > 0;
                case 6:
                    return a <= b;
                case 7:
                    return Long.compareUnsigned(a, b) <= 0;
                case 8:
                    return a >= b;
                default:
                    return Long.compareUnsigned(a, b) >= 0;
            }
        }

        private void divide(int kind, long a, long b, boolean isInt) {
            if (b == 0) {
                reason = BY_ZERO;
                return;
            }
            if (kind == 3 && b == -1 && a == (isInt ? Integer.MIN_VALUE : Long.MIN_VALUE)) {
                reason = QUOTIENT_TOO_GREAT;
                return;
            }
            long mask = isInt ? 0xFFFFFFFFL : -1L;
            long answer;
            if (kind == 3) {
                answer = a / b;
            } else if (kind == 5) {
                answer = a % b;
            } else {
                long quotient = quotientWithoutSign(a & mask, b & mask);
                answer = kind == 4 ? quotient : (a & mask) - quotient * (b & mask);
            }
            push(isInt ? (int) answer : answer);
        }

        /** The divisor is not 0. */
        private static long quotientWithoutSign(long a, long b) {
            if (b <= 0) {
                // with the highest bit set it is half of the greatest or more: it goes in at most once
                return Long.compareUnsigned(a, b) < 0 ? 0 : 1;
            }
            if (a >= 0) {
                return a / b;
            }
            // half of the number divides as one with sign; twice that quotient is the whole one's, or 1 less
            long quotient = (a >>> 1) / b << 1;
            long rest = a - quotient * b;
            return Long.compareUnsigned(rest, b) < 0 ? quotient : quotient + 1;
        }

        private static int ofInts(int kind, int a, int b) {
            switch (kind) {
                case 0:
                    return a + b;
                case 1:
                    return a - b;
                case 2:
                    return a * b;
                case 7:
                    return a & b;
                case 8:
                    return a | b;
                case 9:
                    return a ^ b;
                case 10:
                    return a << b;
                case 11:
                    return a >> b;
                case 12:
                    return a >>> b;
                case 13:
                    return Integer.rotateLeft(a, b);
                default:
                    return Integer.rotateRight(a, b);
            }
        }

        private static long ofLongs(int kind, long a, long b) {
            int places = (int) b;
            switch (kind) {
                case 0:
                    return a + b;
                case 1:
                    return a - b;
                case 2:
                    return a * b;
                case 7:
                    return a & b;
                case 8:
                    return a | b;
                case 9:
                    return a ^ b;
                case 10:
                    return a << places;
                case 11:
                    return a >> places;
                case 12:
                    return a >>> places;
                case 13:
                    return Long.rotateLeft(a, places);
                default:
                    return Long.rotateRight(a, places);
            }
        }

        private void push(long value) {
            if (height < STACK_MOST) {
                stack[height++] = value;
            } else {
                reason = NO_ROOM;
            }
        }

        private long pop() {
            return height > 0 ? stack[--height] : 0;
        }
    }
}
