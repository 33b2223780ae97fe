/** Promise 4: compile; the bytes of the MODULE. */
public final class CompileCodeTest {
    private static final String MEMORY = "05 04 01 01 01 02 ";
    private static final String EXPORTED_MEMORY = " 06 6D 65 6D 6F 72 79 02 00";

    public static void main(String[] args) {
        wholeModules();
        values();
        signsOfTwoSides();
        signsInFront();
        calls();
        statements();
        loops();
        locals();
        typesOnce();
        greatestModule();
        Bench.finish();
    }

    private static void bytes(String program, String wanted) {
        WaferForge forge = new WaferForge();
        Bench.tape(forge, program);
        Bench.due("bytes of " + program, forge.compile(), Bench.unhex(wanted).length);
        Bench.due("reason of " + program, forge.count(2), 0);
        Bench.due("place of " + program, forge.count(3), -1);
        Bench.due(program, Bench.emitted(forge), Bench.hex(Bench.unhex(wanted)));
        Bench.judged("the module of " + program, wanted, 0);
    }

    /** The code of statements with a parameter a of i32 and b of i64, and globals g of i32 and w of i64. */
    private static void code(String statements, String locals, String body) {
        bytes("global g: i32 = 0; global w: i64 = 0L; fn f(a: i32, b: i64) { " + statements + " }",
                Bench.HEAD + Bench.section(1, "01 60 02 7F 7E 00") + Bench.section(3, "01 00") + MEMORY
                + Bench.section(6, "02 7F 01 41 00 0B 7E 01 42 00 0B")
                + Bench.section(7, "02 01 66 00 00" + EXPORTED_MEMORY)
                + Bench.section(10, "01 " + Bench.sized(locals + " " + body + " 0B")));
    }

    private static void code(String statements, String body) {
        code(statements, "00", body);
    }

    private static void wholeModules() {
        bytes("fn f() { }", Bench.HEAD + "01 04 01 60 00 00  03 02 01 00" + MEMORY
                + "07 0E 02 01 66 00 00 06 6D 65 6D 6F 72 79 02 00  0A 04 01 02 00 0B");
        bytes("fn f(): i32 { }", Bench.HEAD + "01 05 01 60 00 01 7F  03 02 01 00" + MEMORY
                + "07 0E 02 01 66 00 00 06 6D 65 6D 6F 72 79 02 00  0A 05 01 03 00 00 0B");
        bytes("global a: i32 = 64; fn _x9(): i64 { return a1; } global b: i64 = -64L; global a1: i64 = -65L;"
                + "global c: i32 = -2147483647; global d: i64 = 9223372036854775807L;",
                Bench.HEAD + Bench.section(1, "01 60 00 01 7E") + Bench.section(3, "01 00") + MEMORY
                + Bench.section(6, "05 7F 01 41 C0 00 0B 7E 01 42 40 0B 7E 01 42 BF 7F 0B"
                        + "7F 01 41 81 80 80 80 78 0B 7E 01 42 FF FF FF FF FF FF FF FF FF 00 0B")
                + Bench.section(7, "02 03 5F 78 39 00 00" + EXPORTED_MEMORY)
                + Bench.section(10, "01 06 00 23 02 0F 00 0B"));
    }

    private static void values() {
        code("0;", "41 00 1A");
        code("63;", "41 3F 1A");
        code("64;", "41 C0 00 1A");
        code("8191;", "41 FF 3F 1A");
        code("8192;", "41 80 C0 00 1A");
        code("2147483647;", "41 FF FF FF FF 07 1A");
        code("0L;", "42 00 1A");
        code("64L;", "42 C0 00 1A");
        code("4294967296L;", "42 80 80 80 80 10 1A");
        code("9223372036854775807L;", "42 FF FF FF FF FF FF FF FF FF 00 1A");
        code("a;", "20 00 1A");
        code("((b));", "20 01 1A");
        code("g; w;", "23 00 1A 23 01 1A");
    }

    private static void signsOfTwoSides() {
        String[] signs = {"==", "!=", "<", ">", "<=", ">=", "+", "-", "*", "/", "%", "&", "|", "^", "<<", ">>", ">>>"};
        String[] ofInts = {"46", "47", "48", "4A", "4C", "4E", "6A", "6B", "6C", "6D", "6F", "71", "72", "73", "74", "75", "76"};
        String[] ofLongs = {"51", "52", "53", "55", "57", "59", "7C", "7D", "7E", "7F", "81", "83", "84", "85", "86", "87", "88"};
        for (int i = 0; i < signs.length; i++) {
            code("a " + signs[i] + " g;", "20 00 23 00 " + ofInts[i] + " 1A");
            code("b " + signs[i] + " w;", "20 01 23 01 " + ofLongs[i] + " 1A");
        }
        code("a || g;", "20 00 04 7F 41 01 05 23 00 41 00 47 0B 1A");
        code("a && g;", "20 00 04 7F 23 00 41 00 47 05 41 00 0B 1A");
        code("1 || 2 || 3;", "41 01 04 7F 41 01 05 41 02 41 00 47 0B 04 7F 41 01 05 41 03 41 00 47 0B 1A");
        code("1 || 2 && 3;", "41 01 04 7F 41 01 05 41 02 04 7F 41 03 41 00 47 05 41 00 0B 41 00 47 0B 1A");
        code("1 - 2 - 3;", "41 01 41 02 6B 41 03 6B 1A");
        code("1 - (2 - 3);", "41 01 41 02 41 03 6B 6B 1A");
        code("1 + 2 * 3;", "41 01 41 02 41 03 6C 6A 1A");
        code("1 * 2 + 3;", "41 01 41 02 6C 41 03 6A 1A");
        code("1 << 2 + 3;", "41 01 41 02 41 03 6A 74 1A");
        code("1 & 2 << 3;", "41 01 41 02 41 03 74 71 1A");
        code("1 | 2 & 3 ^ 4;", "41 01 41 02 72 41 03 71 41 04 73 1A");
        code("1 == 2 & 3;", "41 01 41 02 41 03 71 46 1A");
        code("1 < 2 && 3 > 4;", "41 01 41 02 48 04 7F 41 03 41 04 4A 41 00 47 05 41 00 0B 1A");
        code("8 / 4 % 3;", "41 08 41 04 6D 41 03 6F 1A");
    }

    private static void signsInFront() {
        code("-a;", "41 00 20 00 6B 1A");
        code("-b;", "42 00 20 01 7D 1A");
        code("!a;", "20 00 45 1A");
        code("~a;", "20 00 41 7F 73 1A");
        code("~b;", "20 01 42 7F 85 1A");
        code("--b;", "42 00 42 00 20 01 7D 7D 1A");
        code("-1 + -(2);", "41 00 41 01 6B 41 00 41 02 6B 6A 1A");
        code("-~!a;", "41 00 20 00 45 41 7F 73 6B 1A");
        code("-i64(a);", "42 00 20 00 AC 7D 1A");
        code("i32(b); i64(a); i32(a); i64(b);", "20 01 A7 1A 20 00 AC 1A 20 00 1A 20 01 1A");
    }

    private static void calls() {
        code("f(1, 2L);", "41 01 42 02 10 00");
        code("load8(a); load32(a); load64(a);", "20 00 2D 00 00 1A 20 00 28 02 00 1A 20 00 29 03 00 1A");
        code("store8(1, a); store32(1, a); store64(1, b);",
                "41 01 20 00 3A 00 00 41 01 20 00 36 02 00 41 01 20 01 37 03 00");
        code("size(); grow(a); trap();", "3F 00 1A 20 00 40 00 1A 00");
        bytes("fn f(): i32 { return g() + f(); } fn g(): i32 { }",
                Bench.HEAD + Bench.section(1, "01 60 00 01 7F") + Bench.section(3, "02 00 00") + MEMORY
                + Bench.section(7, "03 01 66 00 00 01 67 00 01" + EXPORTED_MEMORY)
                + Bench.section(10, "02 09 00 10 01 10 00 6A 0F 00 0B 03 00 00 0B"));
    }

    private static void statements() {
        code("a = 1; b = 2L; g = 3; w = 4L;", "41 01 21 00 42 02 21 01 41 03 24 00 42 04 24 01");
        code("return; a;", "0F 20 00 1A");
        code("if a { }", "20 00 04 40 0B");
        code("if a { g; } else { }", "20 00 04 40 23 00 1A 05 0B");
        code("if a { } else if g { 1; } else { 2; }", "20 00 04 40 05 23 00 04 40 41 01 1A 05 41 02 1A 0B 0B");
    }

    private static void loops() {
        code("while a { g; }", "02 40 03 40 20 00 45 0D 01 23 00 1A 0C 00 0B 0B");
        code("while a { break; continue; }", "02 40 03 40 20 00 45 0D 01 0C 01 0C 00 0C 00 0B 0B");
        code("while a { if g { break; } else { continue; } }",
                "02 40 03 40 20 00 45 0D 01 23 00 04 40 0C 02 05 0C 01 0B 0C 00 0B 0B");
        code("while a { while g { break; if 1 { continue; } } break; }",
                "02 40 03 40 20 00 45 0D 01 02 40 03 40 23 00 45 0D 01 0C 01 41 01 04 40 0C 01 0B 0C 00 0B 0B"
                + "0C 01 0C 00 0B 0B");
    }

    private static void locals() {
        code("var x: i32 = 1;", "01 01 7F", "41 01 21 02");
        code("var x: i32 = 1; var y: i32 = x; var z: i64 = b; var q: i32 = y;", "03 02 7F 01 7E 01 7F",
                "41 01 21 02 20 02 21 03 20 01 21 04 20 03 21 05");
        code("if a { var x: i64 = 1L; x; } else { var x: i64 = 2L; x; } var x: i32 = 3;", "02 02 7E 01 7F",
                "20 00 04 40 42 01 21 02 20 02 1A 05 42 02 21 03 20 03 1A 0B 41 03 21 04");
        code("var g: i64 = i64(g); g = 1L;", "01 01 7E", "23 00 AC 21 02 42 01 21 02");
    }

    private static void typesOnce() {
        bytes("fn a() { } fn b(x: i32) { } fn c() { } fn d(x: i64) { } fn e(y: i32) { } fn h(y: i32): i32 { }",
                Bench.HEAD + Bench.section(1, "04 60 00 00 60 01 7F 00 60 01 7E 00 60 01 7F 01 7F")
                + Bench.section(3, "06 00 01 00 02 01 03") + MEMORY
                + Bench.section(7, "07 01 61 00 00 01 62 00 01 01 63 00 02 01 64 00 03 01 65 00 04 01 68 00 05"
                        + EXPORTED_MEMORY)
                + Bench.section(10, "06 02 00 0B 02 00 0B 02 00 0B 02 00 0B 02 00 0B 03 00 00 0B"));
    }

    /** The PROGRAM whose MODULE is the longest: it must be kept, and run, as a whole. */
    private static void greatestModule() {
        StringBuilder program = new StringBuilder();
        String or = "||0";
        for (int f = 0; program.length() < 1300; f++) {
            program.append("fn f").append(f).append("():i32{return 0").append(or.repeat(200)).append(";}");
        }
        String last = "fn z():i32{return 0";
        int times = (2000 - program.length() - last.length() - 6) / 3;
        program.append(last).append(or.repeat(times)).append("||7;}");
        WaferForge forge = new WaferForge();
        Bench.tape(forge, program.toString());
        int length = forge.compile();
        Bench.due("more than 7000 bytes", length > 7000 ? 1 : 0, 1);
        Bench.due("emit", forge.emit(), length);
        Bench.due("last byte", forge.word(length - 1), 0x0BL << 56);
        Bench.due("the last function", forge.call(forge.count(4) - 1), 1);
        Bench.due("the first function", forge.call(0), 0);
        Bench.due("steps of the first", forge.count(7), 1 + 200 * 4 + 1);
    }
}
