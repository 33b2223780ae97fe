import java.util.function.Supplier;
import java.util.function.ToLongFunction;

/**
 * Terms, "What is thrown, in this order: IllegalStateException ...; IllegalArgumentException ...; then as the call says. A
 * call that throws changes nothing, but as said."
 */
public final class ThrowEdgesTest {
    private static final int[] OUT_OF_RANGE = {Integer.MIN_VALUE, Integer.MIN_VALUE + 1, -65536, -2, -1};
    private static final String PROGRAM = "global a: i32 = 3; global b: i64 = 4L; fn f(x: i32): i32 { a = a + 1; store8(0, a);"
            + " if x { trap(); } return a; } fn g() { }";

    public static void main(String[] args) {
        withoutModule();
        withModule();
        wrongNumberOfArguments();
        endedCall();
        refusedCompile();
        refusedModule();
        goesOnAsIfNotCalled();
        Bench.finish();
    }

    /** A tape of a program, 8 arguments, and nothing else. */
    private static WaferForge empty() {
        WaferForge forge = new WaferForge();
        Bench.tape(forge, "fn z(): i32 { return 77; }");
        fill(forge);
        return forge;
    }

    /** A module that was run, a RESULT, a tape of a program, and 8 arguments. */
    private static WaferForge full() {
        WaferForge forge = Bench.compiled(PROGRAM);
        Bench.called(forge, 0, 0);
        forge.emit();
        Bench.tape(forge, "fn z(): i32 { return 77; }");
        fill(forge);
        return forge;
    }

    private static void fill(WaferForge forge) {
        for (int i = 1; i <= 8; i++) {
            forge.argument(i);
        }
    }

    /** On an object of its own, so that none is called too often. */
    private static void unchanged(String what, Class<? extends RuntimeException> wanted, Supplier<WaferForge> made,
            ToLongFunction<WaferForge> call) {
        WaferForge forge = made.get();
        Bench.throwingOnly(what, wanted, forge, () -> call.applyAsLong(forge));
    }

    private static void withoutModule() {
        Class<IllegalStateException> state = IllegalStateException.class;
        unchanged("emit", state, ThrowEdgesTest::empty, WaferForge::emit);
        for (int i : new int[] {Integer.MIN_VALUE, -1, 0, 1, 65536, Integer.MAX_VALUE}) {
            unchanged("call " + i, state, ThrowEdgesTest::empty, forge -> forge.call(i));
            unchanged("global " + i, state, ThrowEdgesTest::empty, forge -> forge.global(i));
            unchanged("memory " + i, state, ThrowEdgesTest::empty, forge -> forge.memory(i));
            unchanged("word " + i, IndexOutOfBoundsException.class, ThrowEdgesTest::empty, forge -> forge.word(i));
        }
        always(ThrowEdgesTest::empty);
    }

    private static void withModule() {
        Class<IllegalArgumentException> argument = IllegalArgumentException.class;
        for (int i : OUT_OF_RANGE) {
            unchanged("call " + i, argument, ThrowEdgesTest::full, forge -> forge.call(i));
            unchanged("global " + i, argument, ThrowEdgesTest::full, forge -> forge.global(i));
            unchanged("memory " + i, argument, ThrowEdgesTest::full, forge -> forge.memory(i));
            unchanged("word " + i, IndexOutOfBoundsException.class, ThrowEdgesTest::full, forge -> forge.word(i));
        }
        int length = full().count(1);
        for (int more : new int[] {0, 1, 1000, Integer.MAX_VALUE - 65536}) {
            unchanged("call " + (2 + more), argument, ThrowEdgesTest::full, forge -> forge.call(2 + more));
            unchanged("global " + (2 + more), argument, ThrowEdgesTest::full, forge -> forge.global(2 + more));
            unchanged("memory " + (65536 + more), argument, ThrowEdgesTest::full, forge -> forge.memory(65536 + more));
            unchanged("word " + (length + more), IndexOutOfBoundsException.class, ThrowEdgesTest::full, forge -> forge.word(length + more));
        }
        always(ThrowEdgesTest::full);
        Supplier<WaferForge> none = () -> Bench.loaded(Bench.HEAD);
        unchanged("no function", argument, none, forge -> forge.call(0));
        unchanged("no global", argument, none, forge -> forge.global(0));
        unchanged("no memory", argument, none, forge -> forge.memory(0));
    }

    /** What throws alike with and without a module. */
    private static void always(Supplier<WaferForge> made) {
        unchanged("argument 9", IndexOutOfBoundsException.class, made, forge -> forge.argument(9));
        for (int n : new int[] {Integer.MIN_VALUE, -1, 27, 2000, Integer.MAX_VALUE}) {
            unchanged("end " + n, IllegalArgumentException.class, made, forge -> forge.end(n));
        }
        for (int what : new int[] {Integer.MIN_VALUE, -1, 9, 10, Integer.MAX_VALUE}) {
            unchanged("count " + what, IllegalArgumentException.class, made, forge -> forge.count(what));
        }
        WaferForge forge = made.get();
        Bench.throwing("argument", IndexOutOfBoundsException.class, () -> forge.argument(9));
        Bench.throwing("end", IllegalArgumentException.class, () -> forge.end(27));
        Bench.due("arguments are still there", forge.count(8), 8);
        Bench.due("the tape is still there", forge.count(0), 26);
        forge.compile();
        Bench.throwing("arguments go", IllegalArgumentException.class, () -> forge.call(0));
        Bench.due("the tape's program", forge.call(0), 77);
        Bench.tape(forge, "@".repeat(1990));
        Bench.throwingOnly("feed", IndexOutOfBoundsException.class, forge, () -> forge.feed(1, 2, 3, 4, 5));
    }

    /** What is seen, but for the count that is told. */
    private static String but(WaferForge forge, int... counts) {
        String text = Bench.seen(forge);
        for (int what : counts) {
            text = text.replaceFirst("\\b" + what + "=-?\\d+ ", "");
        }
        return text;
    }

    /** "another number of them than it has: IllegalArgumentException (reason and steps stay as they were)"; they go. */
    private static void wrongNumberOfArguments() {
        for (int f = 0; f < 2; f++) {
            for (int given = 0; given <= 8; given++) {
                if (given == 1 - f) {
                    continue;
                }
                WaferForge forge = Bench.compiled(PROGRAM);
                Bench.ending(forge, 0, 1);
                Bench.tape(forge, "g");
                forge.emit();
                int function = f;
                for (int i = 0; i < given; i++) {
                    forge.argument(0);
                }
                String before = but(forge, 8);
                Bench.throwing("call " + f + " with " + given, IllegalArgumentException.class, () -> forge.call(function));
                Bench.due("arguments go", forge.count(8), 0);
                Bench.due("nothing else is another", but(forge, 8), before);
                Bench.due("reason stays", forge.count(2), 9);
                Bench.due("steps stay", forge.count(7), 10);
                Bench.due("the next call", f == 0 ? Bench.called(forge, 0, 0) : forge.call(1), f == 0 ? 5 : 0);
            }
        }
    }

    private static void endedCall() {
        WaferForge forge = Bench.compiled(PROGRAM);
        Bench.tape(forge, "fn q() { x; }");
        Bench.throwing("compile", UnsupportedOperationException.class, forge::compile);
        Bench.due("place", forge.count(3), 9);
        forge.emit();
        Bench.tape(forge, "fn z(): i32 { return 77; }");
        forge.argument(1);
        String before = but(forge, 2, 7, 8).replaceAll(" [gm]-?\\d+", "");
        Bench.throwing("call", ArithmeticException.class, () -> forge.call(0));
        Bench.due("nothing but reason, steps, arguments, globals and memory", but(forge, 2, 7, 8).replaceAll(" [gm]-?\\d+", ""), before);
        Bench.due("reason", forge.count(2), 9);
        Bench.due("place is left", forge.count(3), 9);
        Bench.due("arguments", forge.count(8), 0);
        Bench.due("global", forge.global(0), 4);
        Bench.due("memory", forge.memory(0), 4);
        forge.compile();
        Bench.due("the tape's program", forge.call(0), 77);
    }

    /** "PLACE and reason are told (the MODULE before stays)", and all else. */
    private static void refusedCompile() {
        String[] programs = {"", "fn", "fn f() { x; }", "fn f() { 1 + 1L; }", "fn f() { } fn f() { }", "fn f(" + "(".repeat(60), "fn f() { break; }",
            "global a: i32 = 9; fn f() { " + "1+".repeat(201)};
        int[] reasons = {1, 1, 2, 3, 4, 1, 6, 5};
        int[] places = {0, 2, 9, 11, 14, 5, 9, 28 + 401};
        for (int i = 0; i < programs.length; i++) {
            for (boolean loaded : new boolean[] {true, false}) {
                WaferForge forge = loaded ? full() : empty();
                String before = but(forge, 0, 2, 3);
                Bench.tape(forge, programs[i]);
                Bench.throwing("compile", UnsupportedOperationException.class, forge::compile);
                Bench.due("nothing but tape, reason and place", but(forge, 0, 2, 3), before);
                Bench.due("tape", forge.count(0), 0);
                Bench.due("reason", forge.count(2), reasons[i]);
                Bench.due("place", forge.count(3), places[i]);
                if (loaded) {
                    Bench.throwing("arguments go", IllegalArgumentException.class, () -> forge.call(0));
                    Bench.due("the MODULE before", Bench.called(forge, 0, 0), 5);
                } else {
                    Bench.throwing("no MODULE", IllegalStateException.class, forge::emit);
                }
            }
        }
    }

    private static void refusedModule() {
        String[] modules = {"", Bench.HEAD + "01", Bench.HEAD + Bench.section(5, "01 00 03"), Bench.one("00 01 7F", "00", "42 00 0B"),
            Bench.one("00 01 7F", "00", "06 0B")};
        int[] reasons = {7, 7, 8, 8, 7};
        for (int i = 0; i < modules.length; i++) {
            for (boolean loaded : new boolean[] {true, false}) {
                WaferForge forge = loaded ? full() : empty();
                Bench.tape(forge, "fn");
                Bench.throwing("compile", UnsupportedOperationException.class, forge::compile);
                String before = but(forge, 0, 2, 3);
                Bench.tape(forge, Bench.unhex(modules[i]));
                Bench.throwing("module", UnsupportedOperationException.class, forge::module);
                Bench.due("nothing but tape, reason and place", but(forge, 0, 2, 3), before);
                Bench.due("tape", forge.count(0), 0);
                Bench.due("reason", forge.count(2), reasons[i]);
                Bench.due("place", forge.count(3), -1);
                if (loaded) {
                    Bench.throwing("arguments go", IllegalArgumentException.class, () -> forge.call(0));
                    Bench.due("the MODULE before", Bench.called(forge, 0, 0), 5);
                } else {
                    Bench.throwing("no MODULE", IllegalStateException.class, forge::emit);
                }
            }
        }
    }

    /** Two objects: on one of them a call that throws comes between all others; both answer alike. */
    private static void goesOnAsIfNotCalled() {
        WaferForge one = new WaferForge();
        WaferForge other = new WaferForge();
        String[] programs = {PROGRAM, "fn f(x: i32): i32 { return x * 2; } fn g() { } fn h() { }", "fn f(x: i32): i32 { return size() + x; }"};
        for (String program : programs) {
            disturb(one);
            Bench.tape(one, program);
            Bench.tape(other, program);
            disturb(one);
            Bench.due("compile", one.compile(), other.compile());
            disturb(one);
            one.argument(0);
            other.argument(0);
            disturb(one);
            Bench.due("call", one.call(0), other.call(0));
            disturb(one);
            Bench.due("emit", one.emit(), other.emit());
            disturb(one);
            Bench.due("all that is seen", Bench.seen(one), Bench.seen(other));
        }
    }

    private static void disturb(WaferForge forge) {
        boolean loaded = forge.count(4) >= 0;
        Bench.throwing("call", loaded ? IllegalArgumentException.class : IllegalStateException.class, () -> forge.call(-1));
        Bench.throwing("global", loaded ? IllegalArgumentException.class : IllegalStateException.class, () -> forge.global(20));
        Bench.throwing("memory", loaded ? IllegalArgumentException.class : IllegalStateException.class, () -> forge.memory(-5));
        Bench.throwing("word", IndexOutOfBoundsException.class, () -> forge.word(-1));
        Bench.throwing("end", IllegalArgumentException.class, () -> forge.end(2001));
        Bench.throwing("count", IllegalArgumentException.class, () -> forge.count(9));
    }
}
