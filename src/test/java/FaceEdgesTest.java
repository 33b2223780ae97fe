/** Promises 5 to 13, what each call answers at the edges that it names. */
public final class FaceEdgesTest {
    public static void main(String[] args) {
        moduleAnswersFunctions();
        emitAsTheyAreNow();
        findTheName();
        firstExportOfOne();
        arguments();
        numberOfArguments();
        globals();
        bytesOfTheMemory();
        words();
        reasonAndPlace();
        stepsOfTheLatest();
        Bench.finish();
    }

    private static String functions(int n) {
        return Bench.HEAD + Bench.section(1, "01 60 00 00") + Bench.section(3, Bench.unsigned(n) + Bench.repeat(n, " 00"));
    }

    private static void moduleAnswersFunctions() {
        for (int n = 0; n <= 30; n++) {
            WaferForge forge = new WaferForge();
            Bench.tape(forge, Bench.unhex(functions(n) + Bench.section(10, Bench.unsigned(n) + Bench.repeat(n, " 02 00 0B"))));
            Bench.due(n + " functions", forge.module(), n);
            Bench.due(n + " functions", forge.count(4), n);
            int most = n;
            Bench.throwing("call " + n, IllegalArgumentException.class, () -> forge.call(most));
            if (n > 0) {
                Bench.due("call " + (n - 1), forge.call(n - 1), 0);
            }
        }
    }

    /** The bytes are those of the MODULE, whatever was put into its globals and memory; compile and module leave THE RESULT. */
    private static void emitAsTheyAreNow() {
        String program = "global a: i32 = 1; fn f() { a = 2; store8(0, 7); grow(1); }";
        WaferForge forge = Bench.compiled(program);
        String before = Bench.emitted(forge);
        forge.call(0);
        Bench.due("behind a run", Bench.emitted(forge), before);
        Bench.tape(forge, "fn g(): i64 { return 5L; }");
        forge.compile();
        Bench.due("compile leaves it", Bench.result(forge), before);
        String second = Bench.emitted(forge);
        Bench.due("another", second.equals(before) ? 1 : 0, 0);
        Bench.tape(forge, Bench.unhex(Bench.HEAD));
        forge.module();
        Bench.due("module leaves it", Bench.result(forge), second);
        Bench.due("a shorter one", forge.emit(), 8);
        Bench.due("and no byte more", Bench.result(forge), Bench.HEAD);
        forge.argument(5);
        Bench.tape(forge, program);
        forge.compile();
        Bench.due("compile leaves arguments", forge.count(8), 1);
        Bench.tape(forge, Bench.unhex(Bench.one("01 7E 01 7E", "00", "20 00 0B")));
        forge.module();
        Bench.due("module leaves arguments", forge.call(0), 5);
    }

    private static void found(WaferForge forge, String name, int wanted) {
        Bench.tape(forge, name);
        Bench.due("find " + name, forge.find(), wanted);
        Bench.due("tape", forge.count(0), 0);
    }

    private static void findTheName() {
        String longest = "abcdefghijklmnopqrst";
        WaferForge forge = Bench.compiled("global k: i32 = 1; fn a() { } fn ab() { } fn abc() { } fn " + longest + "() { } fn _() { } fn A() { }");
        String[] names = {"a", "ab", "abc", longest, "_", "A"};
        for (int i = 0; i < names.length; i++) {
            found(forge, names[i], i);
        }
        for (String none : new String[] {"", "b", "abcd", "aB", "bc", "k", "memory", "a ", " a", "a\0", longest + "u", longest.substring(1), "f".repeat(2000)}) {
            found(forge, none, -1);
        }
        Bench.tape(forge, "fn");
        Bench.throwing("compile", UnsupportedOperationException.class, forge::compile);
        found(forge, "abc", 2);
        Bench.due("reason", forge.count(2), 1);
        Bench.due("place", forge.count(3), 2);
    }

    /** "The function of the first export of one": exports of a memory or a global of that name are none. */
    private static void firstExportOfOne() {
        WaferForge forge = Bench.loaded(functions(3) + Bench.section(5, "01 00 01") + Bench.section(6, "02 7F 00 41 00 0B 7E 00 42 00 0B")
                + Bench.section(7, "08 01 6D 02 00 01 67 03 01 01 61 00 02 01 62 00 02 01 63 00 00 00 00 01 1E " + Bench.repeat(30, "FF") + "00 01"
                        + " 02 00 80 00 02") + Bench.section(10, "03 02 00 0B 02 00 0B 02 00 0B"));
        found(forge, "m", -1);
        found(forge, "g", -1);
        found(forge, "a", 2);
        found(forge, "b", 2);
        found(forge, "c", 0);
        found(forge, "", 1);
        found(forge, "\u00FF".repeat(30), 1);
        found(forge, "\u00FF".repeat(29), -1);
        found(forge, "\u00FF".repeat(31), -1);
        found(forge, "\0\u0080", 2);
        found(forge, "\0", -1);
        WaferForge none = Bench.loaded(functions(1) + Bench.section(10, "01 02 00 0B"));
        found(none, "", -1);
        found(none, "f", -1);
        found(new WaferForge(), "", -1);
    }

    /** "One more argument, at most 8". */
    private static void arguments() {
        for (int n = 0; n <= 8; n++) {
            String parameters = n == 0 ? "00" : Bench.unsigned(n) + " " + Bench.repeat(n, "7E");
            WaferForge forge = Bench.loaded(Bench.one(parameters + " 01 7E", "00", (n == 0 ? "42 09" : String.format("20 %02X", n - 1)) + " 0B"));
            for (int i = 1; i <= n; i++) {
                Bench.due("argument", forge.argument(i == n ? Long.MIN_VALUE + n : i), i);
                Bench.due("arguments", forge.count(8), i);
            }
            Bench.due("the last of " + n, forge.call(0), n == 0 ? 9 : Long.MIN_VALUE + n);
            Bench.due("they go", forge.count(8), 0);
        }
        WaferForge forge = new WaferForge();
        for (int i = 1; i <= 8; i++) {
            forge.argument(i);
        }
        for (int again = 0; again < 3; again++) {
            Bench.throwingOnly("the 9th", IndexOutOfBoundsException.class, forge, () -> forge.argument(0));
        }
        Bench.tape(forge, Bench.unhex(Bench.one("08 " + Bench.repeat(8, "7E") + "01 7E", "00", "20 07 20 00 7D 0B")));
        forge.module();
        Bench.due("the 8 are as they were", forge.call(0), 7);
    }

    private static void numberOfArguments() {
        for (int takes = 0; takes <= 8; takes++) {
            for (int given = 0; given <= 8; given++) {
                WaferForge forge = Bench.loaded(Bench.one(Bench.unsigned(takes) + " " + Bench.repeat(takes, "7F") + "01 7F", "00", "41 2A 0B"));
                for (int i = 0; i < given; i++) {
                    forge.argument(i);
                }
                if (takes == given) {
                    Bench.due("as many", forge.call(0), 42);
                } else {
                    Bench.throwing(given + " for " + takes, IllegalArgumentException.class, () -> forge.call(0));
                    Bench.due("steps stay", forge.count(7), 0);
                }
                Bench.due("they go", forge.count(8), 0);
            }
        }
    }

    private static void globals() {
        for (int n = 0; n <= 20; n++) {
            StringBuilder globals = new StringBuilder(Bench.unsigned(n));
            for (int i = 0; i < n; i++) {
                globals.append(i % 2 == 0 ? " 7F 00 41 " : " 7E 01 42 ").append(String.format("%02X 0B", i % 3 == 0 ? 0x7F - i : i));
            }
            WaferForge forge = Bench.loaded(Bench.HEAD + Bench.section(6, globals.toString()));
            Bench.due(n + " globals", forge.count(5), n);
            for (int i = 0; i < n; i++) {
                Bench.due("global " + i, forge.global(i), i % 3 == 0 ? -1 - i : i);
            }
            int most = n;
            Bench.throwing("global " + n, IllegalArgumentException.class, () -> forge.global(most));
            Bench.throwing("global -1", IllegalArgumentException.class, () -> forge.global(-1));
        }
    }

    /** "0 .. its pages times 65536 - 1 (without memory there is none such)". */
    private static void bytesOfTheMemory() {
        for (int pages = -1; pages <= 2; pages++) {
            WaferForge forge = Bench.loaded(Bench.HEAD + (pages < 0 ? "" : Bench.section(5, "01 00 0" + pages)));
            int bytes = Math.max(pages, 0) * 65536;
            Bench.due("pages", forge.count(6), Math.max(pages, 0));
            for (int i : new int[] {Integer.MIN_VALUE, -65536, -1, 0, 1, 65535, 65536, 131071, 131072, Integer.MAX_VALUE}) {
                if (i >= 0 && i < bytes) {
                    Bench.due("byte " + i, forge.memory(i), 0);
                } else {
                    Bench.throwing("byte " + i + " of " + pages, IllegalArgumentException.class, () -> forge.memory(i));
                }
            }
        }
        WaferForge forge = Bench.compiled("fn s(i: i32, v: i32) { store8(i, v); } fn g() { grow(1); }");
        for (int value = 0; value <= 257; value += value < 250 ? 25 : 1) {
            Bench.called(forge, 0, 65535, value);
            Bench.due("a byte of " + value, forge.memory(65535), value & 0xFF);
        }
        forge.call(1);
        Bench.due("one page more", forge.memory(65536), 0);
        Bench.due("what was there", forge.memory(65535), 1);
    }

    /** "8 bytes of THE RESULT from i on, the highest first, zeros behind its end". */
    private static void words() {
        for (int rest = 0; rest <= 12; rest++) {
            String hex = Bench.HEAD + Bench.section(0, "00 " + Bench.repeat(rest, "F7"));
            byte[] bytes = Bench.unhex(hex);
            WaferForge forge = Bench.loaded(hex);
            for (int i = -1; i <= 1; i++) {
                int at = i;
                Bench.throwing("before emit", IndexOutOfBoundsException.class, () -> forge.word(at));
            }
            forge.emit();
            Bench.due("bytes", forge.count(1), bytes.length);
            for (int i = -9; i < bytes.length + 9; i++) {
                if (i < 0 || i >= bytes.length) {
                    int at = i;
                    Bench.throwing("word " + i, IndexOutOfBoundsException.class, () -> forge.word(at));
                    continue;
                }
                long wanted = 0;
                for (int k = 0; k < 8; k++) {
                    wanted |= i + k < bytes.length ? (bytes[i + k] & 0xFFL) << 56 - 8 * k : 0;
                }
                Bench.due("word " + i, forge.word(i), wanted);
            }
        }
    }

    private static void told(WaferForge forge, int reason, int place) {
        Bench.due("reason", forge.count(2), reason);
        Bench.due("place", forge.count(3), place);
    }

    /** "2 the reason of the latest compile, module or call, 0 if it had none; 3 PLACE of the latest compile ...". */
    private static void reasonAndPlace() {
        WaferForge forge = new WaferForge();
        told(forge, 0, -1);
        Bench.tape(forge, "  @");
        Bench.throwing("compile", UnsupportedOperationException.class, forge::compile);
        told(forge, 1, 2);
        forge.find();
        Bench.throwing("emit", IllegalStateException.class, forge::emit);
        Bench.throwing("call", IllegalStateException.class, () -> forge.call(0));
        told(forge, 1, 2);
        Bench.tape(forge, "fn f(a: i32): i32 { return 10 / a; }");
        forge.compile();
        told(forge, 0, -1);
        Bench.due("by 0", Bench.ending(forge, 0, 0), 10);
        told(forge, 10, -1);
        Bench.throwing("call", IllegalArgumentException.class, () -> forge.call(0));
        Bench.throwing("call", IllegalArgumentException.class, () -> forge.call(1));
        told(forge, 10, -1);
        Bench.tape(forge, "fn f() { x; }");
        Bench.throwing("compile", UnsupportedOperationException.class, forge::compile);
        told(forge, 2, 9);
        Bench.due("call", Bench.called(forge, 0, 5), 2);
        told(forge, 0, 9);
        Bench.due("by 0", Bench.ending(forge, 0, 0), 10);
        told(forge, 10, 9);
        Bench.throwing("module", UnsupportedOperationException.class, forge::module);
        told(forge, 7, -1);
        Bench.due("call", Bench.called(forge, 0, 5), 2);
        told(forge, 0, -1);
        Bench.tape(forge, "fn f() { break; }");
        Bench.throwing("compile", UnsupportedOperationException.class, forge::compile);
        told(forge, 6, 9);
        Bench.tape(forge, Bench.unhex(Bench.HEAD + Bench.section(5, "01 00 03")));
        Bench.throwing("module", UnsupportedOperationException.class, forge::module);
        told(forge, 8, -1);
        Bench.tape(forge, Bench.unhex(Bench.HEAD));
        forge.module();
        told(forge, 0, -1);
    }

    /** "7 steps of the latest call that began, 0 before". */
    private static void stepsOfTheLatest() {
        WaferForge forge = new WaferForge();
        Bench.due("before", forge.count(7), 0);
        Bench.throwing("call", IllegalStateException.class, () -> forge.call(0));
        Bench.due("before", forge.count(7), 0);
        Bench.tape(forge, "fn f(a: i32): i32 { return 10 / a; } fn n() { }");
        forge.compile();
        Bench.due("before", forge.count(7), 0);
        Bench.throwing("call", IllegalArgumentException.class, () -> forge.call(0));
        Bench.due("none began", forge.count(7), 0);
        Bench.called(forge, 0, 5);
        Bench.due("const get div return", forge.count(7), 4);
        Bench.ending(forge, 0, 0);
        Bench.due("const get div", forge.count(7), 3);
        Bench.throwing("call", IllegalArgumentException.class, () -> forge.call(2));
        Bench.throwing("call", IllegalArgumentException.class, () -> forge.call(0));
        Bench.throwing("compile", UnsupportedOperationException.class, forge::compile);
        Bench.throwing("module", UnsupportedOperationException.class, forge::module);
        Bench.tape(forge, "fn f() { }");
        forge.compile();
        forge.emit();
        forge.find();
        Bench.due("no other call changes it", forge.count(7), 3);
        forge.call(0);
        Bench.due("none at all", forge.count(7), 0);
    }
}
