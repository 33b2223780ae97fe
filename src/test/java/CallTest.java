/** Promise 9: call, and how a MODULE is RUN. */
public final class CallTest {
    private static final long I_MIN = Integer.MIN_VALUE;
    private static final long I_MAX = Integer.MAX_VALUE;
    private static final long L_MIN = Long.MIN_VALUE;
    private static final long L_MAX = Long.MAX_VALUE;

    public static void main(String[] args) {
        whatIsThrown();
        argumentsAndResults();
        ofOneInt();
        ofTwoInts();
        ofOneLong();
        ofTwoLongs();
        comparisons();
        conversions();
        quotients();
        memory();
        growing();
        blocks();
        jumps();
        variables();
        frames();
        stackRoom();
        stepsMost();
        language();
        Bench.finish();
    }

    private static void whatIsThrown() {
        WaferForge forge = new WaferForge();
        Bench.throwing("no module", IllegalStateException.class, () -> forge.call(-1));
        Bench.tape(forge, "fn f(a: i32) { trap(); }");
        forge.compile();
        Bench.throwing("call -1", IllegalArgumentException.class, () -> forge.call(-1));
        Bench.throwing("call 1", IllegalArgumentException.class, () -> forge.call(1));
        Bench.throwing("no argument", IllegalArgumentException.class, () -> forge.call(0));
        forge.argument(1);
        Bench.throwing("trap", ArithmeticException.class, () -> forge.call(0));
        Bench.due("arguments go", forge.count(8), 0);
        Bench.due("reason", forge.count(2), 9);
    }

    private static void argumentsAndResults() {
        WaferForge forge = Bench.compiled("fn i(a: i32): i32 { return a; } fn l(a: i64): i64 { return a; } fn n(a: i32) { }"
                + "fn e(a: i32): i64 { return i64(a); }");
        Bench.due("lowest 32 bits", Bench.called(forge, 0, 0x123456789L), 0x23456789L);
        Bench.due("with its sign", Bench.called(forge, 0, 0xFFFFFFFFL), -1);
        Bench.due("with its sign", Bench.called(forge, 0, 0x180000000L), I_MIN);
        Bench.due("as a long", Bench.called(forge, 3, 0x180000000L), I_MIN);
        Bench.due("an i64", Bench.called(forge, 1, 0x8123456789ABCDEFL), 0x8123456789ABCDEFL);
        Bench.due("without a result", Bench.called(forge, 2, 5), 0);
        Bench.due("reason", forge.count(2), 0);
    }

    private static void of(String what, int op, String type, long wanted, long... arguments) {
        StringBuilder gets = new StringBuilder();
        for (int i = 0; i < arguments.length; i++) {
            gets.append("20 0").append(i).append(' ');
        }
        String head = type.substring(0, 2);
        String module = Bench.one("0" + arguments.length + " " + Bench.repeat(arguments.length, head) + "01 " + type.substring(3),
                "00", gets + String.format("%02X 0B", op));
        Bench.due(what + " of " + java.util.Arrays.toString(arguments), Bench.called(Bench.loaded(module), 0, arguments), wanted);
    }

    private static void ofOneInt() {
        String type = "7F 7F";
        of("eqz", 0x45, type, 1, 0);
        of("eqz", 0x45, type, 0, I_MIN);
        of("clz", 0x67, type, 32, 0);
        of("clz", 0x67, type, 0, -1);
        of("clz", 0x67, type, 31, 1);
        of("ctz", 0x68, type, 32, 0);
        of("ctz", 0x68, type, 31, I_MIN);
        of("popcnt", 0x69, type, 32, -1);
        of("popcnt", 0x69, type, 3, 0x80000101L);
    }

    private static void ofTwoInts() {
        String type = "7F 7F";
        of("add", 0x6A, type, I_MIN, I_MAX, 1);
        of("sub", 0x6B, type, I_MAX, I_MIN, 1);
        of("mul", 0x6C, type, 1, I_MAX, I_MAX);
        of("div_s", 0x6D, type, -2, -7, 3);
        of("div_u", 0x6E, type, 1431655763, -7, 3);
        of("div_u", 0x6E, type, 0, I_MIN, -1);
        of("div_u", 0x6E, type, -1, -1, 1);
        of("rem_s", 0x6F, type, -1, -7, 3);
        of("rem_s", 0x6F, type, 0, I_MIN, -1);
        of("rem_u", 0x70, type, 0, -7, 3);
        of("rem_u", 0x70, type, I_MIN, I_MIN, -1);
        of("and", 0x71, type, 0x0C, 0x3C, 0x4F);
        of("or", 0x72, type, -1, -2, 1);
        of("xor", 0x73, type, -2, -1, 1);
        of("shl", 0x74, type, 2, 1, 33);
        of("shl", 0x74, type, I_MIN, 1, 31);
        of("shr_s", 0x75, type, -1, I_MIN, -1);
        of("shr_u", 0x76, type, 1, I_MIN, -1);
        of("shr_u", 0x76, type, -8, -8, 32);
        of("rotl", 0x77, type, 0x34567812, 0x12345678, 8);
        of("rotl", 0x77, type, 1, I_MIN, 33);
        of("rotr", 0x78, type, 0x78123456, 0x12345678, 8);
        of("rotr", 0x78, type, I_MIN, 1, 33);
    }

    private static void ofOneLong() {
        of("eqz", 0x50, "7E 7F", 1, 0);
        of("eqz", 0x50, "7E 7F", 0, L_MIN);
        of("clz", 0x79, "7E 7E", 64, 0);
        of("clz", 0x79, "7E 7E", 63, 1);
        of("ctz", 0x7A, "7E 7E", 64, 0);
        of("ctz", 0x7A, "7E 7E", 63, L_MIN);
        of("popcnt", 0x7B, "7E 7E", 64, -1);
    }

    private static void ofTwoLongs() {
        String type = "7E 7E";
        of("add", 0x7C, type, L_MIN, L_MAX, 1);
        of("sub", 0x7D, type, L_MAX, L_MIN, 1);
        of("mul", 0x7E, type, 1, L_MAX, L_MAX);
        of("div_s", 0x7F, type, -2, -7, 3);
        of("div_s", 0x7F, type, -I_MIN, I_MIN, -1);
        of("div_u", 0x80, type, 6148914691236517203L, -7, 3);
        of("rem_s", 0x81, type, -1, -7, 3);
        of("rem_s", 0x81, type, 0, L_MIN, -1);
        of("rem_u", 0x82, type, 0, -7, 3);
        of("rem_u", 0x82, type, L_MIN, L_MIN, -1);
        of("and", 0x83, type, 1L << 40, -1, 1L << 40);
        of("or", 0x84, type, -1, -2, 1);
        of("xor", 0x85, type, -2, -1, 1);
        of("shl", 0x86, type, 2, 1, 65);
        of("shr_s", 0x87, type, -1, L_MIN, -1);
        of("shr_u", 0x88, type, 1, L_MIN, -1);
        of("shr_u", 0x88, type, L_MIN, L_MIN, 1L << 32);
        of("rotl", 0x89, type, 0x3456789ABCDEF012L, 0x123456789ABCDEF0L, 8);
        of("rotr", 0x8A, type, 0xF0123456789ABCDEL, 0x123456789ABCDEF0L, 8);
    }

    private static void comparisons() {
        int[] ofEqual = {1, 0, 0, 0, 0, 0, 1, 1, 1, 1};
        int[] ofMinusOneAndOne = {0, 1, 1, 0, 0, 1, 1, 0, 0, 1};
        int[] ofOneAndMinusOne = {0, 1, 0, 1, 1, 0, 0, 1, 1, 0};
        for (int i = 0; i < 10; i++) {
            for (int first : new int[] {0x46, 0x51}) {
                String type = first == 0x46 ? "7F 7F" : "7E 7F";
                of("comparison " + i, first + i, type, ofEqual[i], -5, -5);
                of("comparison " + i, first + i, type, ofMinusOneAndOne[i], -1, 1);
                of("comparison " + i, first + i, type, ofOneAndMinusOne[i], 1, -1);
                of("comparison " + i, first + i, type, ofMinusOneAndOne[i], first == 0x46 ? I_MIN : L_MIN, 0);
                of("comparison " + i, first + i, type, ofOneAndMinusOne[i], 0, first == 0x46 ? I_MIN : L_MIN);
            }
        }
    }

    private static void conversions() {
        of("wrap", 0xA7, "7E 7F", -1, 0xFFFFFFFFL);
        of("wrap", 0xA7, "7E 7F", I_MIN, 0x7FFFFFFF80000000L);
        of("extend_s", 0xAC, "7F 7E", -1, -1);
        of("extend_s", 0xAC, "7F 7E", I_MIN, 0x80000000L);
        of("extend_u", 0xAD, "7F 7E", 0xFFFFFFFFL, -1);
        of("extend_u", 0xAD, "7F 7E", 5, 5);
    }

    private static void quotients() {
        for (int op : new int[] {0x6D, 0x6E, 0x6F, 0x70, 0x7F, 0x80, 0x81, 0x82}) {
            String type = op < 0x79 ? "7F" : "7E";
            WaferForge forge = Bench.loaded(Bench.one("02 " + type + " " + type + " 01 " + type, "00",
                    String.format("20 00 20 01 %02X 0B", op)));
            Bench.due("by 0 of " + op, Bench.ending(forge, 0, 5, 0), 10);
            Bench.due("steps of " + op, forge.count(7), 3);
            boolean tooGreat = op == 0x6D || op == 0x7F;
            long least = op < 0x79 ? I_MIN : L_MIN;
            Bench.due("least by -1 of " + op, Bench.ending(forge, 0, least, -1), tooGreat ? 11 : 0);
            Bench.due("0 by 0 of " + op, Bench.ending(forge, 0, 0, 0), 10);
            Bench.due("least by 1 of " + op, Bench.ending(forge, 0, least, 1), 0);
        }
        WaferForge ints = Bench.loaded(Bench.one("02 7F 7F 01 7F", "00", "20 00 20 01 6D 0B"));
        Bench.due("by what is 0 in 32 bits", Bench.ending(ints, 0, 5, 1L << 32), 10);
    }

    private static void access(String what, String code, long address, int reason) {
        boolean loads = code.startsWith("28") || code.startsWith("29") || code.startsWith("2C") || code.startsWith("2D");
        String value = loads ? "" : code.startsWith("37") ? "42 7F " : "41 7F ";
        WaferForge forge = Bench.loaded(Bench.one("01 7F 00", "00", "20 00 " + value + code + (loads ? " 1A 0B" : " 0B")));
        Bench.due(what + " " + code + " at " + address, Bench.ending(forge, 0, address), reason);
    }

    private static void memory() {
        String[] codes = {"28 00", "29 00", "2C 00", "2D 00", "36 00", "37 00", "3A 00"};
        int[] sizes = {4, 8, 1, 1, 4, 8, 1};
        for (int i = 0; i < codes.length; i++) {
            access("last", codes[i] + " 00", 65536 - sizes[i], 0);
            access("one more", codes[i] + " 00", 65537 - sizes[i], 12);
            access("first", codes[i] + " 00", 0, 0);
            access("-1", codes[i] + " 00", -1, 12);
            access("with offset", codes[i] + " 05", 65536 - sizes[i] - 5, 0);
            access("with offset one more", codes[i] + " 05", 65536 - sizes[i] - 4, 12);
            access("with the greatest offset", codes[i] + " FF FF FF FF 0F", 1, 12);
            access("with the greatest of both", codes[i] + " FF FF FF FF 0F", -1, 12);
        }
        WaferForge forge = Bench.loaded(Bench.one("01 7F 01 7E", "00", "20 00 42 F1 FD FB F7 EF DF BF FF 81 7F 37 01 00"
                + "20 00 28 00 04 AC  20 00 2C 00 07 AC 7C  20 00 2D 00 07 AC 7C  20 00 29 00 01 7C 0B"));
        long stored = value("F1 FD FB F7 EF DF BF FF 81 7F");
        long wanted = (int) (stored >>> 32) + (byte) (stored >>> 56) + (stored >>> 56 & 0xFF) + (stored >>> 8);
        Bench.due("stored and loaded", Bench.called(forge, 0, 13), wanted);
    }

    /** The number that bytes of a signed form tell. */
    private static long value(String hex) {
        byte[] bytes = Bench.unhex(hex);
        long value = 0;
        for (int i = 0; i < bytes.length; i++) {
            value |= (long) (bytes[i] & 0x7F) << 7 * i;
        }
        return value;
    }

    private static void growing() {
        WaferForge forge = Bench.compiled("fn g(a: i32): i32 { return grow(a); } fn s(): i32 { return size(); }"
                + "fn l(a: i32): i32 { return load8(a); }");
        Bench.due("by 0", Bench.called(forge, 0, 0), 1);
        Bench.due("by 2", Bench.called(forge, 0, 2), -1);
        Bench.due("by -1", Bench.called(forge, 0, -1), -1);
        Bench.due("outside", Bench.ending(forge, 2, 65536), 12);
        Bench.due("by 1", Bench.called(forge, 0, 1), 1);
        Bench.due("size", forge.call(1), 2);
        Bench.due("inside", Bench.ending(forge, 2, 131071), 0);
        Bench.due("outside", Bench.ending(forge, 2, 131072), 12);
        Bench.due("by 1 more", Bench.called(forge, 0, 1), -1);
        Bench.due("by 0 at the most", Bench.called(forge, 0, 0), 2);
        String[] limits = {"01 00 00", "01 01 00 01", "01 01 01 01", "01 01 00 00", "01 01 00 0A"};
        int[] pages = {2, 1, 1, 0, 2};
        for (int i = 0; i < limits.length; i++) {
            WaferForge other = Bench.loaded(Bench.HEAD + Bench.section(1, "01 60 00 01 7F") + Bench.section(3, "01 00")
                    + Bench.section(5, limits[i]) + Bench.section(10, "01 06 00 41 01 40 00 0B"));
            for (int k = 0; k < 3; k++) {
                int before = other.count(6);
                Bench.due("grow of " + limits[i], other.call(0), before < pages[i] ? before : -1);
            }
            Bench.due("pages of " + limits[i], other.count(6), pages[i]);
        }
    }

    private static void run(String what, String type, String locals, String body, long wanted, long... arguments) {
        WaferForge forge = Bench.loaded(Bench.one(type, locals, body + " 0B"));
        Bench.due(what, Bench.called(forge, 0, arguments), wanted);
    }

    private static void blocks() {
        run("a block's value", "00 01 7F", "00", "02 7F 41 07 0B", 7);
        run("values below a block", "00 01 7F", "00", "41 05 02 40 41 07 1A 0B", 5);
        run("if", "01 7F 01 7F", "00", "20 00 04 7F 41 01 05 41 02 0B", 1, -1);
        run("else", "01 7F 01 7F", "00", "20 00 04 7F 41 01 05 41 02 0B", 2, 0);
        run("if without else", "01 7F 01 7F", "00", "41 09 20 00 04 40 41 03 0F 0B", 3, 1);
        run("if without else, not taken", "01 7F 01 7F", "00", "41 09 20 00 04 40 41 03 0F 0B", 9, 0);
        run("if in else", "01 7F 01 7F", "00", "20 00 04 7F 41 01 05 41 00 04 7F 41 02 05 41 03 0B 0B", 3, 0);
        run("an empty loop", "00 01 7F", "00", "03 40 0B 41 04", 4);
        run("100 blocks", "00 01 7F", "00", Bench.repeat(100, "02 7F") + "41 06 0C 63" + Bench.repeat(100, "0B"), 6);
    }

    private static void jumps() {
        run("br out of a block", "00 01 7F", "00", "02 7F 41 01 41 02 0C 00 0B", 2);
        run("br keeps what is below", "00 01 7F", "00", "41 01 02 7F 41 05 41 06 41 07 0C 00 0B 6A", 8);
        run("br out of two", "00 01 7F", "00", "02 7F 02 40 41 03 0C 01 0B 41 04 0B", 3);
        run("br out of the function", "00 01 7F", "00", "02 40 41 03 0C 01 0B 41 04", 3);
        run("br out of an if", "00 01 7F", "00", "41 01 04 7F 41 03 0C 00 05 41 04 0B", 3);
        run("br out of an else", "00 01 7F", "00", "41 00 04 7F 41 03 05 41 04 0C 00 0B", 4);
        run("br_if taken", "01 7F 01 7F", "00", "02 7F 41 07 20 00 0D 00 1A 41 09 0B", 7, 1);
        run("br_if not taken", "01 7F 01 7F", "00", "02 7F 41 07 20 00 0D 00 1A 41 09 0B", 9, 0);
        run("a loop", "01 7F 01 7F", "01 01 7F", "03 40 20 01 20 00 6A 21 01 20 00 41 01 6B 22 00 0D 00 0B 20 01", 55, 10);
        run("a loop's br drops values", "01 7F 01 7F", "00", "03 40 41 08 41 09 20 00 41 01 6B 22 00 0D 00 1A 1A 0B 20 00", 0, 30);
        String table = "02 40 02 40 02 40 20 00 0E 02 00 01 02 0B 41 0A 0F 0B 41 0B 0F 0B 41 0C";
        run("br_table 0", "01 7F 01 7F", "00", table, 10, 0);
        run("br_table 1", "01 7F 01 7F", "00", table, 11, 1);
        run("br_table 2", "01 7F 01 7F", "00", table, 12, 2);
        run("br_table 3", "01 7F 01 7F", "00", table, 12, 3);
        run("br_table -1", "01 7F 01 7F", "00", table, 12, -1);
        run("br_table of values", "01 7F 01 7F", "00", "02 7F 02 7F 41 05 20 00 0E 01 00 01 0B 41 E4 00 6A 0B", 105, 0);
        run("br_table of values", "01 7F 01 7F", "00", "02 7F 02 7F 41 05 20 00 0E 01 00 01 0B 41 E4 00 6A 0B", 5, 7);
        run("return drops values", "00 01 7F", "00", "41 01 41 02 02 40 41 03 0F 0B 1A", 3);
        run("return of nothing", "00 00", "00", "41 01 0F", 0);
    }

    private static void variables() {
        run("locals begin as 0", "01 7E 01 7E", "02 01 7F 01 7E", "20 01 AC 20 02 84 20 00 84", 6, 6);
        run("tee", "00 01 7F", "01 01 7F", "41 05 22 00 20 00 6A", 10);
        run("select first", "01 7F 01 7E", "00", "42 01 42 02 20 00 1B", 1, 3);
        run("select second", "01 7F 01 7E", "00", "42 01 42 02 20 00 1B", 2, 0);
        run("nop and drop", "00 01 7F", "00", "41 05 01 41 06 1A", 5);
        String module = Bench.HEAD + Bench.section(1, "02 60 00 01 7F 60 01 7F 01 7F") + Bench.section(3, "02 00 01")
                + Bench.section(10, "02 " + Bench.sized("00 41 E4 00 41 03 10 01 6A 41 04 10 01 6A 0B")
                + Bench.sized("01 01 7F 20 01 20 00 6A 21 01 20 01 0B"));
        Bench.due("locals are new in each call", Bench.loaded(module).call(0), 107);
        String jumping = Bench.HEAD + Bench.section(1, "01 60 00 01 7F") + Bench.section(3, "02 00 00")
                + Bench.section(10, "02 " + Bench.sized("00 02 7F 02 7F 03 7F 10 01 41 01 6A 0B 41 02 6A 0B 41 04 6A 0B 0B")
                + Bench.sized("00 02 40 41 08 0C 01 0B 41 20 0B"));
        Bench.due("br out of a function within blocks of another", Bench.loaded(jumping).call(0), 15);
    }

    private static void frames() {
        WaferForge forge = Bench.compiled("global n: i32 = 0; fn d(k: i32): i32 { n = n + 1; if k == 0 { return 0; }"
                + "return d(k - 1) + 1; } fn e(k: i32) { d(k); } fn w(k: i32) { while k { d(90); k = k - 1; } }");
        Bench.due("100 calls", Bench.called(forge, 0, 99), 99);
        Bench.due("101 calls", Bench.ending(forge, 0, 100), 13);
        Bench.due("begun", forge.global(0), 200);
        Bench.due("100 calls with the first", Bench.ending(forge, 1, 98), 0);
        Bench.due("101 calls with the first", Bench.ending(forge, 1, 99), 13);
        Bench.due("behind one another", Bench.ending(forge, 2, 20), 0);
    }

    private static void stackRoom() {
        // 97 calls hold 1 parameter, 60 locals and 60 values each, the next 61, the last 1 + 10: 11809, so 287 are left
        for (int values = 287; values <= 288; values++) {
            WaferForge forge = Bench.loaded(Bench.HEAD + Bench.section(1, "01 60 01 7F 00") + Bench.section(3, "02 00 00")
                    + Bench.section(10, "02 " + Bench.sized("01 3C 7E 20 00 04 40 " + Bench.repeat(60, "41 00")
                            + "20 00 41 01 6B 10 00 " + Bench.repeat(60, "1A") + "05 20 00 10 01 0B 0B")
                    + Bench.sized("01 0A 7F " + Bench.repeat(values, "41 00") + Bench.repeat(values, "1A") + "0B")));
            Bench.due("room for " + values, Bench.ending(forge, 0, 97), values == 287 ? 0 : 13);
            if (values == 288) {
                Bench.due("the step that finds none", forge.count(7), 97 * 66 + 4 + 288);
            }
        }
        // 1 + 60 + 61 in each: 99 calls hold 12078; the 100th finds no room for its locals
        WaferForge forge = Bench.loaded(Bench.one("01 7F 00", "01 3C 7F", Bench.repeat(61, "41 00")
                + "20 00 10 00 " + Bench.repeat(61, "1A") + "0B"));
        Bench.due("no room for locals", Bench.ending(forge, 0, 0), 13);
        Bench.due("the call that finds none", forge.count(7), 99 * 63);
    }

    private static void stepsMost() {
        // the loop, 5 steps each round, and the last get
        WaferForge forge = Bench.loaded(Bench.one("01 7F 01 7F", "00",
                "03 40 20 00 41 01 6B 22 00 0D 00 0B 20 00 0B"));
        Bench.due("99997 steps", Bench.ending(forge, 0, 19999), 0);
        Bench.due("their number", forge.count(7), 1 + 5 * 19999 + 1);
        Bench.due("too many", Bench.ending(forge, 0, 20000), 14);
        Bench.due("the 100001st is the end", forge.count(7), 100001);
        WaferForge exact = Bench.loaded(Bench.one("01 7F 00", "00", "03 40 20 00 41 01 6B 22 00 0D 00 0B 01 01 01 01 0B"));
        Bench.due("100000 steps", Bench.ending(exact, 0, 19999), 0);
        Bench.due("their number", exact.count(7), 100000);
        WaferForge more = Bench.loaded(Bench.one("01 7F 00", "00", "03 40 20 00 41 01 6B 22 00 0D 00 0B 01 01 01 01 00 0B"));
        Bench.due("14 before 9", Bench.ending(more, 0, 19999), 14);
        WaferForge endless = Bench.compiled("global n: i32 = 0; fn f() { while 1 { n = n + 1; } }");
        Bench.due("endless", Bench.ending(endless, 0), 14);
        Bench.due("what was put stays", endless.global(0) > 10000 ? 1 : 0, 1);
    }

    private static void language() {
        WaferForge forge = Bench.compiled("fn fib(k: i32): i32 { if k < 2 { return k; } return fib(k - 1) + fib(k - 2); }"
                + "fn gcd(a: i64, b: i64): i64 { while b != 0L { var t: i64 = a % b; a = b; b = t; } return a; }"
                + "fn and(a: i32, b: i32): i32 { return a && b; } fn or(a: i32, b: i32): i32 { return a || b; }"
                + "fn lazy(a: i32): i32 { return a == 0 || 10 / a > 2; }"
                + "fn none(): i32 { } fn neg(a: i64): i64 { return -~a; }"
                + "fn skip(k: i32): i32 { var s: i32 = 0; while k > 0 { k = k - 1; if k % 2 == 0 { continue; }"
                + " if k < 4 { break; } s = s + k; } return s; }"
                + "fn bytes(a: i32): i32 { store32(0, a); return load8(0) + load8(3); }");
        Bench.due("fib", Bench.called(forge, 0, 10), 55);
        Bench.due("gcd", Bench.called(forge, 1, 1071, 462), 21);
        Bench.due("and", Bench.called(forge, 2, 2, 4), 1);
        Bench.due("and", Bench.called(forge, 2, 2, 0), 0);
        Bench.due("and", Bench.called(forge, 2, 0, 4), 0);
        Bench.due("or", Bench.called(forge, 3, 0, 4), 1);
        Bench.due("or", Bench.called(forge, 3, 8, 0), 1);
        Bench.due("or", Bench.called(forge, 3, 0, 0), 0);
        Bench.due("lazy", Bench.called(forge, 4, 0), 1);
        Bench.due("lazy", Bench.called(forge, 4, 5), 0);
        Bench.due("no return", Bench.ending(forge, 5), 9);
        Bench.due("- ~", Bench.called(forge, 6, 41), 42);
        Bench.due("continue and break", Bench.called(forge, 7, 10), 9 + 7 + 5);
        Bench.due("bytes", Bench.called(forge, 8, 0xFF0000FEL), 254 + 255);
    }
}
