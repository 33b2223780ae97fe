/** Promises 10 and 11: global and memory. */
public final class GlobalMemoryTest {
    public static void main(String[] args) {
        globals();
        memory();
        withoutMemory();
        beginningAnew();
        Bench.finish();
    }

    private static void globals() {
        WaferForge forge = Bench.compiled("global a: i32 = -5; global b: i64 = 9223372036854775807L;"
                + "fn f() { a = a - 2147483647; b = b + 1L; } fn g() { a = 7; trap(); a = 8; }");
        Bench.due("global 0", forge.global(0), -5);
        Bench.due("global 1", forge.global(1), Long.MAX_VALUE);
        Bench.throwing("global 2", IllegalArgumentException.class, () -> forge.global(2));
        Bench.throwing("global -1", IllegalArgumentException.class, () -> forge.global(-1));
        forge.call(0);
        Bench.due("an i32 wraps", forge.global(0), 2147483644);
        Bench.due("an i64 wraps", forge.global(1), Long.MIN_VALUE);
        Bench.due("ended", Bench.ending(forge, 1), 9);
        Bench.due("what was put stays", forge.global(0), 7);
        WaferForge none = Bench.compiled("fn f() { }");
        Bench.throwing("no globals", IllegalArgumentException.class, () -> none.global(0));
    }

    private static void memory() {
        WaferForge forge = Bench.compiled("fn s8(a: i32, v: i32) { store8(a, v); } fn s32(a: i32, v: i32) { store32(a, v); }"
                + "fn s64(a: i32, v: i64) { store64(a, v); } fn more(): i32 { return grow(1); }"
                + "fn half() { store8(1, 77); trap(); }");
        Bench.due("byte 0", forge.memory(0), 0);
        Bench.due("the last byte", forge.memory(65535), 0);
        Bench.throwing("byte -1", IllegalArgumentException.class, () -> forge.memory(-1));
        Bench.throwing("byte 65536", IllegalArgumentException.class, () -> forge.memory(65536));
        Bench.called(forge, 0, 3, 0x1FF);
        Bench.due("store8 takes the lowest byte", forge.memory(3), 255);
        Bench.due("and no other", forge.memory(2) + forge.memory(4), 0);
        Bench.called(forge, 1, 6, 0x89ABCDEFL);
        Bench.due("store32, the lowest first", forge.memory(6), 0xEF);
        Bench.due("store32", forge.memory(7), 0xCD);
        Bench.due("store32", forge.memory(8), 0xAB);
        Bench.due("store32", forge.memory(9), 0x89);
        Bench.called(forge, 2, 65528, 0x0102030405060708L);
        for (int i = 0; i < 8; i++) {
            Bench.due("store64 " + i, forge.memory(65528 + i), 8 - i);
        }
        Bench.due("grow", forge.call(3), 1);
        Bench.due("a byte of the new page", forge.memory(65536), 0);
        Bench.due("its last", forge.memory(131071), 0);
        Bench.throwing("byte 131072", IllegalArgumentException.class, () -> forge.memory(131072));
        Bench.due("ended", Bench.ending(forge, 4), 9);
        Bench.due("what was put stays", forge.memory(1), 77);
    }

    private static void withoutMemory() {
        WaferForge forge = Bench.loaded(Bench.HEAD);
        Bench.throwing("no memory", IllegalArgumentException.class, () -> forge.memory(0));
        WaferForge empty = Bench.loaded(Bench.HEAD + Bench.section(5, "01 00 00"));
        Bench.throwing("memory of no pages", IllegalArgumentException.class, () -> empty.memory(0));
        Bench.due("pages", empty.count(6), 0);
        WaferForge two = Bench.loaded(Bench.HEAD + Bench.section(5, "01 00 02"));
        Bench.due("memory of 2 pages", two.memory(131071), 0);
        Bench.due("pages", two.count(6), 2);
    }

    private static void beginningAnew() {
        String program = "global a: i32 = 3; fn f() { a = 9; store64(65528, -1L); grow(1); store8(65536, 1); }";
        WaferForge forge = Bench.compiled(program);
        forge.call(0);
        Bench.due("page", forge.count(6), 2);
        Bench.tape(forge, program);
        forge.compile();
        Bench.due("global", forge.global(0), 3);
        Bench.due("pages", forge.count(6), 1);
        Bench.due("memory", forge.memory(65535), 0);
        Bench.throwing("second page", IllegalArgumentException.class, () -> forge.memory(65536));
        forge.call(0);
        Bench.due("second page", forge.memory(65536), 1);
        Bench.tape(forge, Bench.unhex(Bench.HEAD + Bench.section(5, "01 00 02")));
        forge.module();
        Bench.due("memory of the module", forge.memory(65536) + forge.memory(65535), 0);
    }
}
