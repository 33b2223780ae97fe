/** Promise 4, CODE and MODULE: numbers in their shortest form where it grows, sizes, indices and runs at their edges. */
public final class CodeEdgesTest {
    private static final String MEMORY = "05 04 01 01 01 02 ";
    private static final String EXPORTED_MEMORY = "06 6D 65 6D 6F 72 79 02 00 ";

    public static void main(String[] args) {
        constants();
        globals();
        sizes();
        longNames();
        indices();
        runsOfLocals();
        typesAsTheyFirstCome();
        noGlobalsNoSection();
        branchesOut();
        answersHowManyBytes();
        asItBegins();
        Bench.finish();
    }

    /** The shortest form with sign: as few groups of seven bits as tell the number and its sign. */
    private static String signed(long value) {
        int groups = 1;
        while (groups < 10 && (value < -(1L << 7 * groups - 1) || value > (1L << 7 * groups - 1) - 1)) {
            groups++;
        }
        StringBuilder text = new StringBuilder();
        for (int i = 0; i < groups; i++) {
            text.append(String.format("%02X ", value >> 7 * i & 0x7F | (i + 1 < groups ? 0x80 : 0)));
        }
        return text.toString();
    }

    private static void bytes(String program, String wanted) {
        Bench.due(program, Bench.emitted(Bench.compiled(program)), Bench.hex(Bench.unhex(wanted)));
        if (Bench.unhex(wanted).length <= 2000) {
            Bench.judged("the module of " + program, wanted, 0);
        }
    }

    private static String module(String types, String functions, String globals, String exports, String codes) {
        return Bench.HEAD + Bench.section(1, types) + Bench.section(3, functions) + MEMORY
                + (globals.isEmpty() ? "" : Bench.section(6, globals)) + Bench.section(7, exports) + Bench.section(10, codes);
    }

    /** One function f of no type, without globals. */
    private static String plain(String locals, String body) {
        return module("01 60 00 00", "01 00", "", "02 01 66 00 00 " + EXPORTED_MEMORY,
                "01 " + Bench.sized(locals + " " + body + " 0B"));
    }

    private static void constants() {
        Bench.due("signed 63", signed(63), "3F ");
        Bench.due("signed 64", signed(64), "C0 00 ");
        Bench.due("signed -64", signed(-64), "40 ");
        Bench.due("signed -65", signed(-65), "BF 7F ");
        for (int bits = 0; bits < 31; bits++) {
            for (int more = -1; more <= 1; more++) {
                int value = (1 << bits) + more;
                bytes("fn f() { " + value + "; }", plain("00", "41 " + signed(value) + "1A"));
            }
        }
        bytes("fn f() { 2147483647; }", plain("00", "41 FF FF FF FF 07 1A"));
        for (int bits = 0; bits < 63; bits++) {
            for (int more = -1; more <= 1; more++) {
                long value = (1L << bits) + more;
                bytes("fn f() { " + value + "L; }", plain("00", "42 " + signed(value) + "1A"));
            }
        }
        bytes("fn f() { 9223372036854775807L; }", plain("00", "42 FF FF FF FF FF FF FF FF FF 00 1A"));
        // there are no numbers below 0 in the language, so - stays an instruction
        bytes("fn f() { -1; }", plain("00", "41 00 41 01 6B 1A"));
        bytes("fn f() { -64L; }", plain("00", "42 00 42 C0 00 7D 1A"));
    }

    private static void global(String type, String text, long value) {
        boolean isInt = type.equals("i32");
        bytes("global g: " + type + " = " + text + "; fn f() { }", module("01 60 00 00", "01 00",
                "01 " + (isInt ? "7F 01 41 " : "7E 01 42 ") + signed(value) + "0B", "02 01 66 00 00 " + EXPORTED_MEMORY, "01 02 00 0B"));
        Bench.due("global " + text, Bench.compiled("global g: " + type + " = " + text + "; fn f() { }").global(0), value);
    }

    private static void globals() {
        for (int bits = 0; bits < 63; bits++) {
            for (int more = -1; more <= 1; more++) {
                long value = (1L << bits) + more;
                if (bits < 31) {
                    global("i32", "" + value, value);
                    global("i32", "-" + value, -value);
                }
                global("i64", value + "L", value);
                global("i64", "- " + value + "L", -value);
            }
        }
        global("i32", "2147483647", Integer.MAX_VALUE);
        global("i32", "-2147483647", -Integer.MAX_VALUE);
        global("i64", "9223372036854775807L", Long.MAX_VALUE);
        global("i64", "-9223372036854775807L", -Long.MAX_VALUE);
        global("i32", "-0", 0);
        StringBuilder program = new StringBuilder();
        StringBuilder wanted = new StringBuilder("14 ");
        for (int i = 0; i < 20; i++) {
            program.append("global g").append(i).append(i % 2 == 0 ? ": i32 = " : ": i64 = -").append(i).append(i % 2 == 0 ? "; " : "L; ");
            wanted.append(i % 2 == 0 ? "7F 01 41 " : "7E 01 42 ").append(signed(i % 2 == 0 ? i : -i)).append("0B ");
        }
        bytes(program + "fn f() { }", module("01 60 00 00", "01 00", wanted.toString(), "02 01 66 00 00 " + EXPORTED_MEMORY, "01 02 00 0B"));
        WaferForge forge = Bench.compiled(program + "fn f() { }");
        for (int i = 0; i < 20; i++) {
            Bench.due("global " + i, forge.global(i), i % 2 == 0 ? i : -i);
        }
        Bench.throwing("global 20", IllegalArgumentException.class, () -> forge.global(20));
    }

    /** A code's and a section's size take a second byte from 128 on. */
    private static void sizes() {
        for (int n = 38; n <= 46; n++) {
            for (int traps = 0; traps <= 2; traps++) {
                bytes("fn f() { " + "1;".repeat(n) + "trap();".repeat(traps) + " }",
                        plain("00", Bench.repeat(n, "41 01 1A") + Bench.repeat(traps, "00")));
            }
        }
        for (int n = 600; n <= 900; n += 100) {
            bytes("fn f() { " + "1;".repeat(n) + " }", plain("00", Bench.repeat(n, "41 01 1A")));
        }
    }

    private static void longNames() {
        StringBuilder program = new StringBuilder();
        StringBuilder exports = new StringBuilder("15 ");
        for (int i = 0; i < 20; i++) {
            String name = "abcdefghijklmnopqrst".substring(i == 19 ? 0 : 1) + (i == 19 ? "" : (char) ('A' + i));
            program.append("fn ").append(name).append("(){}");
            exports.append("14 ").append(Bench.hex(Bench.bytes(name))).append(String.format(" 00 %02X ", i));
        }
        bytes(program.toString(), module("01 60 00 00", "14 " + Bench.repeat(20, "00"), "", exports + EXPORTED_MEMORY,
                "14 " + Bench.repeat(20, "02 00 0B")));
    }

    /** The last local, global and FUNCTION that there can be. */
    private static void indices() {
        StringBuilder program = new StringBuilder();
        StringBuilder body = new StringBuilder();
        for (int i = 0; i < 50; i++) {
            program.append("var v").append(i).append(":i32=").append(i == 0 ? "1" : "v" + (i - 1)).append(";");
            body.append(i == 0 ? "41 01 " : String.format("20 %02X ", i - 1)).append(String.format("21 %02X ", i));
        }
        bytes("fn f() { " + program + "v49; }", plain("01 32 7F", body + "20 31 1A"));
        StringBuilder globals = new StringBuilder();
        StringBuilder functions = new StringBuilder();
        StringBuilder exports = new StringBuilder("15 ");
        for (int i = 0; i < 20; i++) {
            globals.append("global g").append(i).append(":i32=0;");
            functions.append("fn f").append(i).append(i == 0 ? "(){g19=g18;f19();f0();}" : "(){}");
            exports.append(i < 10 ? "02 66 " : "03 66 31 ").append(String.format("%02X 00 %02X ", '0' + i % 10, i));
        }
        bytes(globals.toString() + functions, module("01 60 00 00", "14 " + Bench.repeat(20, "00"),
                "14 " + Bench.repeat(20, "7F 01 41 00 0B"), exports + EXPORTED_MEMORY,
                "14 " + Bench.sized("00 23 12 24 13 10 13 10 00 0B") + " " + Bench.repeat(19, "02 00 0B")));
    }

    /** "locals: runs of the same type as long as can be". */
    private static void runsOfLocals() {
        StringBuilder program = new StringBuilder();
        StringBuilder body = new StringBuilder();
        for (int i = 0; i < 50; i++) {
            program.append("var v").append(i).append(i % 2 == 0 ? ":i32=1;" : ":i64=1L;");
            body.append(i % 2 == 0 ? "41 01 " : "42 01 ").append(String.format("21 %02X ", i));
        }
        bytes("fn f() { " + program + "}", plain("32 " + Bench.repeat(25, "01 7F 01 7E"), body.toString()));
        bytes("fn f() { if 1 { var a: i64 = 1L; } while 1 { var a: i64 = 1L; } var a: i32 = 1; var b: i64 = 2L; }",
                plain("03 02 7E 01 7F 01 7E", "41 01 04 40 42 01 21 00 0B 02 40 03 40 41 01 45 0D 01 42 01 21 01 0C 00 0B 0B"
                + "41 01 21 02 42 02 21 03"));
        // parameters are in no run, nor do they make one longer
        bytes("fn f(a: i32) { var b: i32 = 1; }", module("01 60 01 7F 00", "01 00", "", "02 01 66 00 00 " + EXPORTED_MEMORY,
                "01 " + Bench.sized("01 01 7F 41 01 21 01 0B")));
        bytes("fn f(a: i32) { }", module("01 60 01 7F 00", "01 00", "", "02 01 66 00 00 " + EXPORTED_MEMORY, "01 02 00 0B"));
    }

    /** "1 types (as they first come in FUNCTIONS, each once)". */
    private static void typesAsTheyFirstCome() {
        StringBuilder program = new StringBuilder();
        StringBuilder types = new StringBuilder("14 ");
        StringBuilder functions = new StringBuilder("14 ");
        StringBuilder exports = new StringBuilder("15 ");
        for (int i = 0; i < 20; i++) {
            // i in twos: the parameters' types, of 1 to 4 of them, so that all are different
            String bits = Integer.toBinaryString(i + 2).substring(1);
            program.append("fn ").append((char) ('a' + i)).append("(");
            types.append(String.format("60 %02X ", bits.length()));
            for (int p = 0; p < bits.length(); p++) {
                program.append(p == 0 ? "" : ",").append("p").append(p).append(bits.charAt(p) == '0' ? ":i32" : ":i64");
                types.append(bits.charAt(p) == '0' ? "7F " : "7E ");
            }
            program.append("){}");
            types.append("00 ");
            functions.append(String.format("%02X ", i));
            exports.append(String.format("01 %02X 00 %02X ", 'a' + i, i));
        }
        bytes(program.toString(), module(types.toString(), functions.toString(), "", exports + EXPORTED_MEMORY,
                "14 " + Bench.repeat(20, "02 00 0B")));
        String eight = "a:i32,b:i32,c:i32,d:i32,e:i32,f:i32,g:i32,h:i64";
        bytes("fn a(" + eight + "){} fn b(): i32 {} fn c(" + eight + "){} fn d(): i64 {} fn e(): i32 {}",
                module("03 60 08 7F 7F 7F 7F 7F 7F 7F 7E 00 60 00 01 7F 60 00 01 7E", "05 00 01 00 02 01", "",
                "06 01 61 00 00 01 62 00 01 01 63 00 02 01 64 00 03 01 65 00 04 " + EXPORTED_MEMORY,
                "05 02 00 0B 03 00 00 0B 02 00 0B 03 00 00 0B 03 00 00 0B"));
    }

    private static void noGlobalsNoSection() {
        Bench.due("no section 6", Bench.emitted(Bench.compiled("fn f() { }")).contains("05 04 01 01 01 02 07") ? 1 : 0, 1);
        bytes("global g: i64 = 0L; fn f() { }", module("01 60 00 00", "01 00", "01 7E 01 42 00 0B", "02 01 66 00 00 " + EXPORTED_MEMORY,
                "01 02 00 0B"));
    }

    /** break and continue from within as many ifs as can be open: their labels grow with each. */
    private static void branchesOut() {
        for (int ifs = 0; ifs <= 18; ifs++) {
            for (boolean leaves : new boolean[] {true, false}) {
                String word = leaves ? "break;" : "continue;";
                String label = String.format("0C %02X ", ifs + (leaves ? 1 : 0));
                bytes("fn f() { while 1 { " + "if 1 {".repeat(ifs) + word + "}".repeat(ifs) + " } }",
                        plain("00", "02 40 03 40 41 01 45 0D 01 " + Bench.repeat(ifs, "41 01 04 40") + label
                        + Bench.repeat(ifs, "0B") + "0C 00 0B 0B"));
            }
        }
        bytes("fn f() { while 1 { while 2 { break; } continue; break; } }", plain("00", "02 40 03 40 41 01 45 0D 01"
                + " 02 40 03 40 41 02 45 0D 01 0C 01 0C 00 0B 0B 0C 00 0C 01 0C 00 0B 0B"));
    }

    private static void answersHowManyBytes() {
        for (int n = 0; n <= 60; n++) {
            WaferForge forge = new WaferForge();
            Bench.tape(forge, "fn f() { " + "1;".repeat(n) + " }");
            int answered = forge.compile();
            Bench.due("compile of " + n, answered, Bench.unhex(plain("00", Bench.repeat(n, "41 01 1A"))).length);
            Bench.due("emit of " + n, forge.emit(), answered);
        }
    }

    /** "its MODULE is the one from now on, as it begins": memory of 1 page, all 0, and globals as told. */
    private static void asItBegins() {
        String program = "global a: i32 = 7; fn f() { a = 8; store8(0, 1); store8(65535, 2); grow(1); store8(131071, 3); }";
        WaferForge forge = new WaferForge();
        for (int round = 0; round < 3; round++) {
            Bench.tape(forge, program);
            forge.compile();
            Bench.due("pages", forge.count(6), 1);
            Bench.due("global", forge.global(0), 7);
            Bench.due("memory", forge.memory(0) + forge.memory(65535), 0);
            forge.call(0);
            Bench.due("pages", forge.count(6), 2);
            Bench.due("global", forge.global(0), 8);
            Bench.due("memory", forge.memory(0) + forge.memory(65535) + forge.memory(131071), 6);
        }
    }
}
