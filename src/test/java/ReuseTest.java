import java.util.ArrayList;
import java.util.List;
import java.util.Random;

/** One object, used again and again, answers as a new one does. */
public final class ReuseTest {
    private static final String[] PROGRAMS = {
        "global a: i32 = 5; global b: i64 = -7L; fn f(x: i32): i32 { a = a + x; return a; } fn g(): i64 { return b; }",
        "fn h(x: i32): i32 { while x > 3 { x = x / 2; if x == 5 { break; } } return x; }",
        "fn x() { y; }",
        "fn deep(k: i32): i32 { var v: i64 = i64(k); store64(8, v); return deep(k + 1); }",
        "fn f(x: i32): i32 { var a: i64 = 1L; var b: i32 = x; return b || i32(a); } fn f2() { } fn f3() { } fn f4() { }",
        "fn (",
    };
    private static final String[] MODULES = {
        Bench.one("01 7F 01 7F", "00", "02 7F 41 07 20 00 0D 00 1A 41 09 0B 0B"),
        Bench.HEAD,
        Bench.one("01 7F 01 7F", "01 02 7E", "20 00 04 7F 41 01 05 00 0B 0B"),
        Bench.one("01 7F 01 7F", "00", "42 00 0B"),
        Bench.HEAD + "01",
        Bench.one("01 7F 01 7F", "00", "41 03 20 00 0E 02 00 00 00 0B"),
    };

    public static void main(String[] args) {
        WaferForge forge = new WaferForge();
        String last = "";
        for (int round = 0; round < 12; round++) {
            boolean compiles = round % 2 == 0;
            byte[] tape = compiles ? Bench.bytes(PROGRAMS[round / 2]) : Bench.unhex(MODULES[round / 2]);
            String got = answers(forge, tape, compiles);
            String wanted = answers(new WaferForge(), tape, compiles);
            if (wanted.startsWith("refused")) {
                Bench.due("round " + round, got.substring(0, got.indexOf('|')), wanted.substring(0, wanted.indexOf('|')));
                Bench.due("bytes stay in round " + round, Bench.emitted(forge), last);
            } else {
                Bench.due("round " + round, got, wanted);
                last = Bench.emitted(forge);
            }
        }
        fullTapes();
        tablesBeginAnew();
        stepsBeginAnew();
        openBeginsAnew();
        mostSigns();
        nothingOfTheOneBefore();
        fullModulesAgain();
        Bench.finish();
    }

    private static String answers(WaferForge forge, byte[] tape, boolean compiles) {
        StringBuilder text = new StringBuilder();
        Bench.tape(forge, tape);
        try {
            int answer = compiles ? forge.compile() : forge.module();
            text.append("answered ").append(answer);
        } catch (UnsupportedOperationException e) {
            text.append("refused");
        }
        text.append(" reason ").append(forge.count(2)).append(" place ").append(forge.count(3)).append('|');
        for (int what = 4; what <= 6; what++) {
            text.append(' ').append(forge.count(what));
        }
        for (int f = 0; f < forge.count(4); f++) {
            for (int given = 0; given <= 1; given++) {
                text.append(' ').append(called(forge, f, given));
            }
        }
        for (int g = 0; g < forge.count(5); g++) {
            text.append(" g").append(forge.global(g));
        }
        for (int i = 0; i < forge.count(6) * 65536; i = i < 20 ? i + 1 : i + 13107) {
            text.append(" m").append(forge.memory(i));
        }
        return text.toString();
    }

    private static String called(WaferForge forge, int f, int given) {
        try {
            if (given == 1) {
                forge.argument(11);
            }
            return forge.call(f) + "/" + forge.count(7);
        } catch (ArithmeticException e) {
            return "ended by " + forge.count(2) + "/" + forge.count(7);
        } catch (IllegalArgumentException e) {
            return "not taken";
        }
    }

    /** Tapes of 2000 bytes that fill the program's rows as far as can be. */
    private static void fullTapes() {
        String head = "fn f(): i32 { ";
        String tail = "return 7;}";
        String[] parts = {"1;", "-----------------------------------1;", "~~~~~~~~~~~~~~~~~~~~~~~~~~~~~~~~~~~1;",
            "!1;", "f();", "if 1{}", "while 0{}", "size();", "return 7;"};
        for (String part : parts) {
            int room = 2000 - head.length() - tail.length();
            String program = head + part.repeat(room / part.length()) + " ".repeat(room % part.length()) + tail;
            WaferForge forge = new WaferForge();
            Bench.tape(forge, program);
            Bench.due("length", forge.count(0), 2000);
            forge.compile();
            if (!part.equals("f();")) {
                Bench.due("full of " + part, forge.call(0), 7);
            }
        }
        StringBuilder module = new StringBuilder(Bench.HEAD + Bench.section(1, "01 60 00 00") + Bench.section(3, "01 00"));
        int room = 2000 - Bench.unhex(module.toString()).length - 8;
        module.append(Bench.section(10, "01 " + Bench.sized("00 " + Bench.repeat(room - 2, "01") + "0B")));
        WaferForge forge = Bench.loaded(module.toString());
        forge.call(0);
        Bench.due("steps of a full module", forge.count(7), room - 2);
    }

    /** The greatest tables, again and again in one object. */
    private static void tablesBeginAnew() {
        StringBuilder program = new StringBuilder();
        for (int i = 0; i < 20; i++) {
            program.append("global g").append(i).append(":i32=").append(i).append(";fn f").append(i)
                    .append("(a:i32,b:i32,c:i32,d:i32,e:i32,f:i32,g:i32,h:i64):i32{return g").append(i).append("+g;}");
        }
        WaferForge forge = new WaferForge();
        for (int round = 0; round < 4; round++) {
            Bench.tape(forge, program.toString());
            forge.compile();
            Bench.due("functions", forge.count(4), 20);
            Bench.due("globals", forge.count(5), 20);
            Bench.due("the last function", Bench.called(forge, 19, 1, 2, 3, 4, 5, 6, 7, 8), 26);
            Bench.due("the first function", Bench.called(forge, 0, 1, 2, 3, 4, 5, 6, 7, 8), 7);
        }
    }

    private static void stepsBeginAnew() {
        WaferForge forge = new WaferForge();
        String program = "fn f(): i32 { " + "1;".repeat(980) + "return 7; }";
        for (int round = 0; round < 4; round++) {
            // some 105 calls each, so that all are among the first 512
            Bench.tape(forge, program);
            forge.compile();
            Bench.due("the last statement", forge.call(0), 7);
            Bench.due("all statements", forge.count(7), 2 * 980 + 2);
        }
        WaferForge greatest = new WaferForge();
        for (int round = 0; round < 4; round++) {
            String zeros = "||0".repeat(199) + (round % 3 == 0 ? "||1" : "||0");
            String ones = "&&1".repeat(199) + (round % 2 == 0 ? "&&1" : "&&0");
            Bench.tape(greatest, "fn a():i32{return 0" + zeros + ";}fn b():i32{return 1" + ones + ";}fn c():i32{return 0" + zeros + ";}");
            greatest.compile();
            Bench.due("the first function", greatest.call(0), round % 3 == 0 ? 1 : 0);
            Bench.due("the second function", greatest.call(1), round % 2 == 0 ? 1 : 0);
            Bench.due("the last function", greatest.call(2), round % 3 == 0 ? 1 : 0);
        }
    }

    /** Programs that are refused with as much open as can be, each followed by one that opens as much and is taken. */
    private static void openBeginsAnew() {
        String[] open = {"1*(".repeat(38) + "@", "-".repeat(38) + "@", "1||1&&1==1|1<<1+1*(".repeat(28) + "x" + ")".repeat(28) + ";}",
            "-(".repeat(19) + "x" + ")".repeat(19) + ";}", "while 1{".repeat(39) + "@", "if 1{".repeat(19) + "x"};
        String most = "1L*(".repeat(37) + "-1L" + ")".repeat(37);
        for (String refused : open) {
            WaferForge forge = new WaferForge();
            for (int round = 0; round < 8; round++) {
                Bench.tape(forge, "fn f() { " + refused);
                Bench.throwing("refused", UnsupportedOperationException.class, forge::compile);
                Bench.tape(forge, "fn f(): i64 { return " + most + "; }");
                forge.compile();
                Bench.due("round " + round + " behind " + refused, forge.call(0), -1);
            }
        }
    }

    /** A tape of 2000 signs, of one byte each. */
    private static void mostSigns() {
        for (String sign : new String[] {"(", "-", "{", ";", "a;", "1+"}) {
            Bench.refused(sign.repeat(2000 / sign.length()), 1, 0);
        }
        String head = "fn f(a:i32){";
        String program = head + "a;".repeat((1999 - head.length()) / 2);
        program += program.length() == 1999 ? "}" : " }";
        Bench.due("length", program.length(), 2000);
        Bench.accepted(program);
    }

    private static String body(String body) {
        return Bench.one("01 7F 01 7F", "01 03 7F", body + " 0B");
    }

    /** Tapes that leave as much behind as they can, taken and refused. */
    private static List<byte[]> tapes() {
        String type = Bench.section(1, "01 60 01 7F 01 7F");
        String function = Bench.HEAD + type + Bench.section(3, "01 00");
        String[] modules = {Bench.HEAD, Bench.HEAD + type, Bench.HEAD + "01",
            Bench.HEAD + Bench.section(3, "01 00") + Bench.section(10, "01 03 00 00 0B"),
            function + Bench.section(10, "01 " + Bench.sized("00 41 00 28 00 00 0B")),
            function + Bench.section(10, "01 " + Bench.sized("00 23 00 0B")),
            function + Bench.section(10, "01 " + Bench.sized("00 20 01 0B")),
            function + Bench.section(7, "01 01 67 03 00") + Bench.section(10, "01 " + Bench.sized("00 20 00 0B")),
            Bench.HEAD + Bench.section(5, "01 00 02"), Bench.HEAD + Bench.section(5, "01 01 00 00"),
            Bench.HEAD + Bench.section(5, "01 01 01 01"), Bench.HEAD + Bench.section(6, "02 7F 01 41 05 0B 7E 01 42 06 0B"),
            Bench.HEAD + Bench.section(6, "01 7F 00 42 00 0B"), Bench.HEAD + Bench.section(7, "01 01 6D 02 00"),
            body("41 01 40 00"), body("20 00 10 00"), body("02 40 02 40 02 40 02 40"), body("41 00 04 7F 41 01 05"),
            body("20 00 0E 02 00 00 00"), body("20 03 20 00 22 03 6A"), body("20 04"), body("00"),
            body("02 40 02 40 1A 0B 0B 00"), body("00 0C 01"), body("00 0C 02"), body("42 00"), body("03 40 0C 00 0B 00"),
            body("3F 00"), body("20 00 41 00 20 00 36 00 00")};
        String[] statements = {"while a { if a { x; } } return 1;", "break;", "continue;",
            "while a { if a > 2 { break; } a = a - 1; continue; } return a;", "return g;", "var g: i32 = a; var h: i32 = x;",
            "return h;", "-(1 + (2 * (x)));", "return -(1 + (2 * (a)));", "grow(1); store8(70000, a); return load8(70000);",
            "return load8(70000);", "return f(a);", "if a { return 1; }", "1 + 1L;", "while 1 { }", "} fn f(a: i32, a: i32) {",
            "g = g + a; return g; } global g: i32 = 7; fn e() {", "fn", "@"};
        List<byte[]> all = new ArrayList<>();
        for (String module : modules) {
            all.add(Bench.unhex(module));
        }
        for (String statement : statements) {
            all.add(Bench.bytes("fn f(a: i32): i32 { " + statement + " }"));
        }
        all.add(Bench.bytes(""));
        return all;
    }

    /** Tapes behind one another in one object, in any order: each is answered as in a new one. */
    private static void nothingOfTheOneBefore() {
        List<byte[]> tapes = tapes();
        List<String> wanted = new ArrayList<>();
        for (byte[] tape : tapes) {
            wanted.add(taken(new WaferForge(), tape, true));
            wanted.add(taken(new WaferForge(), tape, false));
        }
        Random random = new Random(9);
        for (int object = 0; object < 300; object++) {
            WaferForge forge = new WaferForge();
            for (int round = 0; round < 20; round++) {
                int which = random.nextInt(tapes.size());
                boolean compiles = tapes.get(which).length < 8 || tapes.get(which)[0] != 0;
                Bench.due("tape " + which + " in round " + round, taken(forge, tapes.get(which), compiles), wanted.get(2 * which + (compiles ? 0 : 1)));
            }
        }
    }

    /** What the tape gives: the reason and place, or, if it is taken, what its function answers to some arguments. */
    private static String taken(WaferForge forge, byte[] tape, boolean compiles) {
        Bench.tape(forge, tape);
        StringBuilder text = new StringBuilder();
        try {
            text.append(compiles ? forge.compile() : forge.module()).append(" bytes or functions, ").append(forge.emit()).append(" bytes");
            for (int what = 4; what <= 6; what++) {
                text.append(' ').append(forge.count(what));
            }
            for (int f = 0; f < forge.count(4); f++) {
                text.append(' ').append(called(forge, f, 1)).append(' ').append(forge.count(6));
            }
            for (int g = 0; g < forge.count(5); g++) {
                text.append(" g").append(forge.global(g));
            }
        } catch (UnsupportedOperationException e) {
            text.append("refused by ").append(forge.count(2)).append(" at ").append(forge.count(3));
        }
        return text.toString();
    }

    /** Modules that fill the rows of instructions and of labels, again and again. */
    private static void fullModulesAgain() {
        String table = "02 40 41 00 0E 32" + Bench.repeat(51, " 00") + "0B";
        String[] bodies = {Bench.repeat(1900, "01") + "41 07 0B", Bench.repeat(33, table) + "41 07 0B"};
        for (String body : bodies) {
            WaferForge forge = new WaferForge();
            byte[] module = Bench.unhex(Bench.one("00 01 7F", "00", body));
            Bench.due("it fits", module.length <= 2000 ? 1 : 0, 1);
            for (int round = 0; round < 4; round++) {
                Bench.tape(forge, module);
                forge.module();
                Bench.due("round " + round, forge.call(0), 7);
            }
        }
    }
}
