import java.util.ArrayList;
import java.util.Arrays;
import java.util.HashSet;
import java.util.List;
import java.util.Set;

/** A second reader and validator of modules, written from the document alone, to compare with. */
final class Judge {
    private static final int INT = 0x7F;
    private static final int LONG = 0x7E;
    private static final List<Integer> NONE = List.of();

    /** Thrown with the reason, 7 or 8. */
    private static final class Refused extends RuntimeException {
        final int reason;

        Refused(int reason) {
            super(null, null, false, false);
            this.reason = reason;
        }
    }

    private static final class Type {
        final List<Integer> takes = new ArrayList<>();
        final List<Integer> gives = new ArrayList<>();
    }

    private static final class Code {
        final List<Integer> locals = new ArrayList<>();
        final List<long[]> body = new ArrayList<>();
    }

    private static final class Block {
        final int op;
        final List<Integer> gives;
        final int height;
        boolean dead;

        Block(int op, List<Integer> gives, int height) {
            this.op = op;
            this.gives = gives;
            this.height = height;
        }
    }

    private final byte[] bytes;
    private int at;
    private int limit;
    private final List<Type> types = new ArrayList<>();
    private final List<Integer> functions = new ArrayList<>();
    private final List<Code> codes = new ArrayList<>();
    private long[] memory;
    private final List<int[]> globals = new ArrayList<>();
    private final List<String> names = new ArrayList<>();
    private final List<int[]> exports = new ArrayList<>();

    private final List<Integer> stack = new ArrayList<>();
    private final List<Block> blocks = new ArrayList<>();

    private Judge(byte[] bytes) {
        this.bytes = bytes;
        limit = bytes.length;
    }

    /** 7, 8, or 0 if the module is READ and VALID. */
    static int reason(byte[] bytes) {
        try {
            Judge judge = new Judge(bytes);
            judge.read();
            judge.check();
            return 0;
        } catch (Refused refused) {
            return refused.reason;
        }
    }

    private static void asked(boolean holds, int reason) {
        if (!holds) {
            throw new Refused(reason);
        }
    }

    private int next() {
        asked(at < limit, 7);
        return bytes[at++] & 0xFF;
    }

    private int nextOf(int... allowed) {
        int value = next();
        asked(Arrays.stream(allowed).anyMatch(a -> a == value), 7);
        return value;
    }

    private long unsigned(long most) {
        long value = 0;
        for (int i = 0; i < 5; i++) {
            int part = next();
            value += (part % 128L) << 7 * i;
            if (part < 128) {
                asked(value <= most, 7);
                return value;
            }
        }
        throw new Refused(7);
    }

    private long index() {
        return unsigned(0x7FFFFFFFL);
    }

    private long offset() {
        return unsigned(0xFFFFFFFFL);
    }

    private void constant(int bits) {
        java.math.BigInteger value = java.math.BigInteger.ZERO;
        for (int i = 0; i < (bits + 6) / 7; i++) {
            int part = next();
            value = value.add(java.math.BigInteger.valueOf(part % 128).shiftLeft(7 * i));
            if (part < 128) {
                java.math.BigInteger signed = part < 64 ? value
                        : value.subtract(java.math.BigInteger.ONE.shiftLeft(7 * i + 7));
                asked(signed.bitLength() < bits, 7);
                return;
            }
        }
        throw new Refused(7);
    }

    private void read() {
        for (int value : new int[] {0, 0x61, 0x73, 0x6D, 1, 0, 0, 0}) {
            nextOf(value);
        }
        int former = 0;
        while (at < bytes.length) {
            int id = nextOf(0, 1, 3, 5, 6, 7, 10);
            long size = offset();
            asked(size <= bytes.length - at && (id == 0 || id > former), 7);
            former = Math.max(former, id);
            limit = at + (int) size;
            section(id);
            asked(at == limit, 7);
            limit = bytes.length;
        }
        asked(codes.size() == functions.size(), 7);
    }

    private void section(int id) {
        if (id == 0) {
            long size = offset();
            asked(size <= limit - at, 7);
            at = limit;
            return;
        }
        int most = id == 1 || id == 6 ? 20 : id == 3 || id == 10 ? 30 : id == 5 ? 1 : 40;
        long count = unsigned(most);
        for (int i = 0; i < count; i++) {
            switch (id) {
                case 1 -> readType();
                case 3 -> functions.add((int) index());
                case 5 -> {
                    int flag = nextOf(0, 1);
                    memory = new long[] {offset(), flag == 1 ? offset() : -1};
                }
                case 6 -> readGlobal();
                case 7 -> readExport();
                default -> readCode();
            }
        }
    }

    private void readType() {
        nextOf(0x60);
        Type type = new Type();
        long takes = unsigned(8);
        for (int i = 0; i < takes; i++) {
            type.takes.add(nextOf(INT, LONG));
        }
        if (unsigned(1) == 1) {
            type.gives.add(nextOf(INT, LONG));
        }
        types.add(type);
    }

    private void readGlobal() {
        int type = nextOf(INT, LONG);
        int changes = nextOf(0, 1);
        int op = nextOf(0x41, 0x42);
        constant(op == 0x41 ? 32 : 64);
        nextOf(0x0B);
        globals.add(new int[] {type, changes, op == 0x41 ? INT : LONG});
    }

    private void readExport() {
        StringBuilder name = new StringBuilder();
        long size = unsigned(30);
        for (int i = 0; i < size; i++) {
            name.append((char) next());
        }
        names.add(name.toString());
        exports.add(new int[] {nextOf(0, 2, 3), (int) index()});
    }

    private void readCode() {
        int outer = limit;
        long size = offset();
        asked(size <= limit - at, 7);
        limit = at + (int) size;
        Code code = new Code();
        long runs = unsigned(60);
        for (int r = 0; r < runs; r++) {
            long run = unsigned(60);
            int type = nextOf(INT, LONG);
            for (int i = 0; i < run; i++) {
                code.locals.add(type);
            }
            asked(code.locals.size() <= 60, 7);
        }
        readBody(code);
        asked(at == limit, 7);
        limit = outer;
        codes.add(code);
    }

    private void readBody(Code code) {
        List<Integer> open = new ArrayList<>();
        while (true) {
            int op = next();
            code.body.add(readInstruction(op));
            int last = open.size() - 1;
            if (op == 0x0B && last < 0) {
                return;
            }
            if (op == 0x0B) {
                open.remove(last);
            } else if (op == 0x05) {
                asked(last >= 0 && open.get(last) == 0x04, 7);
                open.set(last, 0x05);
            } else if (op >= 0x02 && op <= 0x04) {
                open.add(op);
                asked(open.size() <= 100, 7);
            }
        }
    }

    /** The instruction and what stands behind it. */
    private long[] readInstruction(int op) {
        switch (op) {
            case 0x02, 0x03, 0x04:
                return new long[] {op, nextOf(0x40, INT, LONG)};
            case 0x0C, 0x0D, 0x10, 0x20, 0x21, 0x22, 0x23, 0x24:
                return new long[] {op, index()};
            case 0x0E:
                long[] table = new long[(int) unsigned(50) + 2];
                table[0] = op;
                for (int i = 1; i < table.length; i++) {
                    table[i] = index();
                }
                return table;
            case 0x28, 0x29, 0x2C, 0x2D, 0x36, 0x37, 0x3A:
                return new long[] {op, index(), offset()};
            case 0x3F, 0x40:
                return new long[] {op, nextOf(0)};
            case 0x41, 0x42:
                constant(op == 0x41 ? 32 : 64);
                return new long[] {op};
            default:
                asked(op <= 0x01 || op == 0x05 || op == 0x0B || op == 0x0F || op == 0x1A || op == 0x1B
                        || op >= 0x45 && op <= 0x5A || op >= 0x67 && op <= 0x8A
                        || op == 0xA7 || op == 0xAC || op == 0xAD, 7);
                return new long[] {op};
        }
    }

    private void check() {
        for (int type : functions) {
            asked(type < types.size(), 8);
        }
        if (memory != null) {
            asked(memory[0] <= 2 && memory[1] <= 65536 && (memory[1] < 0 || memory[0] <= memory[1]), 8);
        }
        for (int[] global : globals) {
            asked(global[0] == global[2], 8);
        }
        Set<String> different = new HashSet<>(names);
        asked(different.size() == names.size(), 8);
        for (int[] export : exports) {
            int there = export[0] == 0 ? functions.size() : export[0] == 3 ? globals.size() : memory != null ? 1 : 0;
            asked(export[1] < there, 8);
        }
        for (int f = 0; f < functions.size(); f++) {
            checkCode(types.get(functions.get(f)), codes.get(f));
        }
    }

    private void checkCode(Type type, Code code) {
        List<Integer> locals = new ArrayList<>(type.takes);
        locals.addAll(code.locals);
        stack.clear();
        blocks.clear();
        open(0, type.gives);
        for (long[] step : code.body) {
            int op = (int) step[0];
            if (op >= 0x20 && op <= 0x24) {
                checkVariable(op, step[1], locals);
            } else if (op <= 0x10) {
                checkControl(op, step, type.gives);
            } else if (op == 0x1A) {
                popAny();
            } else if (op == 0x1B) {
                pop(INT);
                int one = popAny();
                stack.add(one == 0 ? popAny() : pop(one));
            } else {
                asked(op > 0x40 || memory != null, 8);
                asked(step.length < 3 || step[1] <= natural(op), 8);
                change(takes(op), gives(op));
            }
        }
    }

    private void checkVariable(int op, long index, List<Integer> locals) {
        boolean global = op >= 0x23;
        asked(index < (global ? globals.size() : locals.size()), 8);
        int type = global ? globals.get((int) index)[0] : locals.get((int) index);
        asked(op != 0x24 || globals.get((int) index)[1] == 1, 8);
        boolean gets = op == 0x20 || op == 0x23;
        change(gets ? NONE : List.of(type), gets || op == 0x22 ? List.of(type) : NONE);
    }

    private void checkControl(int op, long[] step, List<Integer> gives) {
        switch (op) {
            case 0x00 -> die();
            case 0x01 -> { }
            case 0x02, 0x03, 0x04 -> {
                change(op == 0x04 ? List.of(INT) : NONE, NONE);
                open(op, step[1] == 0x40 ? NONE : List.of((int) step[1]));
            }
            case 0x05 -> open(op, close().gives);
            case 0x0B -> {
                Block block = close();
                asked(block.op != 0x04 || block.gives.isEmpty(), 8);
                stack.addAll(block.gives);
            }
            case 0x0C -> {
                change(label(step[1]), NONE);
                die();
            }
            case 0x0D -> {
                pop(INT);
                change(label(step[1]), label(step[1]));
            }
            case 0x0E -> {
                List<Integer> last = label(step[step.length - 1]);
                for (int i = 1; i < step.length; i++) {
                    asked(label(step[i]).equals(last), 8);
                }
                pop(INT);
                change(last, NONE);
                die();
            }
            case 0x0F -> {
                change(gives, NONE);
                die();
            }
            default -> {
                asked(step[1] < functions.size(), 8);
                Type type = types.get(functions.get((int) step[1]));
                change(type.takes, type.gives);
            }
        }
    }

    private static int natural(int op) {
        return op == 0x28 || op == 0x36 ? 2 : op == 0x29 || op == 0x37 ? 3 : 0;
    }

    private static List<Integer> takes(int op) {
        switch (op) {
            case 0x3F, 0x41, 0x42:
                return NONE;
            case 0x28, 0x29, 0x2C, 0x2D, 0x40, 0x45, 0x67, 0x68, 0x69, 0xAC, 0xAD:
                return List.of(INT);
            case 0x50, 0x79, 0x7A, 0x7B, 0xA7:
                return List.of(LONG);
            case 0x37:
                return List.of(INT, LONG);
            default:
                return op > 0x50 && op < 0x67 || op > 0x7B ? List.of(LONG, LONG) : List.of(INT, INT);
        }
    }

    private static List<Integer> gives(int op) {
        if (op == 0x36 || op == 0x37 || op == 0x3A) {
            return NONE;
        }
        return List.of(op == 0x29 || op == 0x42 || op >= 0x79 && op <= 0x8A || op >= 0xAC ? LONG : INT);
    }

    private void change(List<Integer> takes, List<Integer> gives) {
        for (int i = takes.size() - 1; i >= 0; i--) {
            pop(takes.get(i));
        }
        stack.addAll(gives);
    }

    private Block innermost() {
        return blocks.get(blocks.size() - 1);
    }

    /** 0: what can't be reached may have any type. */
    private int popAny() {
        if (stack.size() > innermost().height) {
            return stack.remove(stack.size() - 1);
        }
        asked(innermost().dead, 8);
        return 0;
    }

    private int pop(int wanted) {
        int type = popAny();
        asked(type == wanted || type == 0, 8);
        return wanted;
    }

    private void open(int op, List<Integer> gives) {
        blocks.add(new Block(op, gives, stack.size()));
    }

    private Block close() {
        Block block = innermost();
        change(block.gives, NONE);
        asked(stack.size() == block.height, 8);
        blocks.remove(block);
        return block;
    }

    private void die() {
        while (stack.size() > innermost().height) {
            stack.remove(stack.size() - 1);
        }
        innermost().dead = true;
    }

    private List<Integer> label(long label) {
        asked(label < blocks.size(), 8);
        Block block = blocks.get(blocks.size() - 1 - (int) label);
        return block.op == 0x03 ? NONE : block.gives;
    }
}
