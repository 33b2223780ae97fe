/** Terms, "THE TAPE has at most 2000 bytes; a call that reads THE TAPE leaves it empty, also if it throws". */
public final class TapeEdgesTest {
    private static final String PROGRAM = "global k: i32 = 3; fn f(a: i32): i32 { if a { trap(); } return k; }";
    private static final String LEAST = "fn f(): i32 { return 7; }";

    public static void main(String[] args) {
        mostBytes();
        aFullTapeIsRead();
        keepsItsFirstBytes();
        compileLeavesItEmpty();
        moduleLeavesItEmpty();
        findLeavesItEmpty();
        othersLeaveItAsItIs();
        Bench.finish();
    }

    private static String filled(String program, int length) {
        return program + " ".repeat(length - program.length());
    }

    private static void mostBytes() {
        for (int length = 1979; length <= 2000; length++) {
            WaferForge forge = new WaferForge();
            Bench.tape(forge, filled(LEAST, length));
            Bench.due("length", forge.count(0), length);
            if (length <= 1980) {
                Bench.due("20 more behind " + length, forge.feed(0, 0, 0, 0, 0), length + 20);
            } else {
                Bench.throwingOnly("20 more behind " + length, IndexOutOfBoundsException.class, forge,
                        () -> forge.feed(0x40404040, 0, 0, 0, 0));
                forge.compile();
                Bench.due("a refused feed puts nothing", forge.call(0), 7);
            }
        }
    }

    private static void aFullTapeIsRead() {
        WaferForge forge = new WaferForge();
        Bench.tape(forge, filled(LEAST, 1999) + "@");
        Bench.throwing("the last byte is read", UnsupportedOperationException.class, forge::compile);
        Bench.due("its reason", forge.count(2), 1);
        Bench.due("its place", forge.count(3), 1999);
        Bench.tape(forge, " ".repeat(2000));
        Bench.throwing("blanks", UnsupportedOperationException.class, forge::compile);
        Bench.due("the place of the end", forge.count(3), 2000);
        String program = "fn f(): i32 { return ";
        Bench.tape(forge, program + " ".repeat(2000 - program.length() - 3) + "5;}");
        forge.compile();
        Bench.due("2000 bytes of a program", forge.call(0), 5);
        String head = Bench.HEAD + Bench.section(1, "01 60 00 01 7F") + Bench.section(3, "01 00");
        String code = Bench.section(10, "01 " + Bench.sized("00 41 09 0B"));
        int rest = 2000 - Bench.unhex(head + code).length;
        String other = Bench.section(0, "00 " + Bench.repeat(rest - 4, "FF"));
        Bench.due("2000 bytes of a module", Bench.unhex(head + other + code).length, 2000);
        Bench.tape(forge, Bench.unhex(head + other + code));
        Bench.due("functions", forge.module(), 1);
        Bench.due("2000 bytes of a module", forge.call(0), 9);
        Bench.due("all of them are kept", forge.emit(), 2000);
        Bench.tape(forge, Bench.unhex(head + other + code.trim().replaceAll("0B$", "0A")));
        Bench.throwing("its last byte is read", UnsupportedOperationException.class, forge::module);
        Bench.tape(forge, "f".repeat(2000));
        Bench.due("a name of 2000", forge.find(), -1);
    }

    private static void keepsItsFirstBytes() {
        for (int n = 0; n <= 40; n++) {
            WaferForge forge = new WaferForge();
            Bench.tape(forge, "@".repeat(40));
            Bench.due("end", forge.end(n), n);
            Bench.due("its length", forge.count(0), n);
            int most = n;
            Bench.throwingOnly("end " + (n + 1), IllegalArgumentException.class, forge, () -> forge.end(most + 1));
            Bench.throwingOnly("end -1", IllegalArgumentException.class, forge, () -> forge.end(-1));
            Bench.due("end as it is", forge.end(n), n);
            Bench.due("20 more", forge.feed(0, 0, 0, 0, 0), n + 20);
        }
        WaferForge forge = new WaferForge();
        Bench.tape(forge, "fn f(): i32 { return 12345; }");
        forge.end(22);
        forge.feed(0x373B7D20, 0x20202020, 0x20202020, 0x20202020, 0x20202020);
        forge.compile();
        Bench.due("the first 22, and then what came", forge.call(0), 17);
    }

    private static void compileLeavesItEmpty() {
        WaferForge forge = new WaferForge();
        String[] refused = {"", " ", "fn f() { ", "fn f() { x; }", "fn f() { 1 + 1L; }", "fn f() { } fn f() { }",
            "fn f() { " + "(".repeat(50), "fn f() { break; }"};
        for (String program : refused) {
            Bench.tape(forge, program);
            Bench.throwing(program, UnsupportedOperationException.class, forge::compile);
            Bench.due("empty behind " + program, forge.count(0), 0);
            Bench.throwing("end 1", IllegalArgumentException.class, () -> forge.end(1));
        }
        Bench.tape(forge, LEAST);
        forge.compile();
        Bench.due("empty behind what is taken", forge.count(0), 0);
        Bench.throwing("so it is no program any more", UnsupportedOperationException.class, forge::compile);
        Bench.due("reason", forge.count(2), 1);
        Bench.due("place", forge.count(3), 0);
        Bench.due("a new beginning", forge.feed(1, 2, 3, 4, 5), 20);
    }

    private static void moduleLeavesItEmpty() {
        WaferForge forge = new WaferForge();
        String notValid = Bench.HEAD + Bench.section(5, "01 00 03");
        for (String refused : new String[] {"", Bench.HEAD + "01", notValid}) {
            Bench.tape(forge, Bench.unhex(refused));
            Bench.throwing(refused, UnsupportedOperationException.class, forge::module);
            Bench.due("empty behind " + refused, forge.count(0), 0);
        }
        Bench.tape(forge, Bench.unhex(Bench.HEAD));
        forge.module();
        Bench.due("empty behind what is taken", forge.count(0), 0);
        Bench.throwing("so it is no module any more", UnsupportedOperationException.class, forge::module);
        Bench.due("reason", forge.count(2), 7);
    }

    private static void findLeavesItEmpty() {
        WaferForge forge = new WaferForge();
        Bench.tape(forge, "f");
        Bench.due("without a module", forge.find(), -1);
        Bench.due("empty", forge.count(0), 0);
        Bench.tape(forge, LEAST);
        forge.compile();
        for (String name : new String[] {"f", "g", "memory", ""}) {
            Bench.tape(forge, name);
            Bench.due("find " + name, forge.find(), name.equals("f") ? 0 : -1);
            Bench.due("empty behind " + name, forge.count(0), 0);
        }
    }

    /** Each other call, taken or refused: the tape is a program before it, and the same one behind it. */
    private static void othersLeaveItAsItIs() {
        String[] names = {"emit", "argument", "call", "call 1", "call with too few", "call that ends", "global", "global 1",
            "memory", "memory -1", "word", "word -1", "count", "count 9", "end -1", "end 9999"};
        for (int which = 0; which < 2 * names.length; which++) {
            boolean loaded = which < names.length;
            WaferForge forge = loaded ? Bench.compiled(PROGRAM) : new WaferForge();
            Bench.tape(forge, LEAST);
            int kind = which % names.length;
            try {
                other(forge, kind);
            } catch (RuntimeException e) {
                // what it throws is told by the tests of the promises
            }
            Bench.due("length behind " + names[kind], forge.count(0), LEAST.length());
            forge.compile();
            if (forge.count(8) > 0) {
                Bench.throwing("arguments go", IllegalArgumentException.class, () -> forge.call(0));
            }
            Bench.due("tape behind " + names[kind], forge.call(0), 7);
        }
    }

    private static void other(WaferForge forge, int kind) {
        switch (kind) {
            case 0 -> forge.emit();
            case 1 -> forge.argument(1);
            case 2 -> Bench.called(forge, 0, 0);
            case 3 -> forge.call(1);
            case 4 -> forge.call(0);
            case 5 -> Bench.called(forge, 0, 1);
            case 6 -> forge.global(0);
            case 7 -> forge.global(1);
            case 8 -> forge.memory(0);
            case 9 -> forge.memory(-1);
            case 10 -> forge.word(0);
            case 11 -> forge.word(-1);
            case 12 -> forge.count(0);
            case 13 -> forge.count(9);
            case 14 -> forge.end(-1);
            default -> forge.end(9999);
        }
    }
}
