/** Promises 6 and 12: emit and word. */
public final class EmitWordTest {
    private static final String LONG_FORMS = Bench.HEAD + " 01 84 80 00 01 60 00 00";

    public static void main(String[] args) {
        bytesAsTheyAre();
        resultStays();
        words();
        Bench.finish();
    }

    private static void bytesAsTheyAre() {
        WaferForge forge = Bench.loaded(LONG_FORMS);
        Bench.due("how many", forge.emit(), 16);
        Bench.due("bytes of the tape", Bench.emitted(forge), LONG_FORMS);
        WaferForge compiled = Bench.compiled("fn f(): i32 { return 7; }");
        String bytes = Bench.emitted(compiled);
        WaferForge again = Bench.loaded(bytes);
        Bench.due("the compiled one as a module", again.call(0), 7);
        Bench.due("its bytes", Bench.emitted(again), bytes);
    }

    private static void resultStays() {
        WaferForge forge = Bench.compiled("fn f() { }");
        Bench.due("no result yet", forge.count(1), 0);
        Bench.due("emit", forge.emit(), 46);
        Bench.due("result", forge.count(1), 46);
        long last = forge.word(45);
        Bench.tape(forge, "fn g(): i32 { return 1; }");
        forge.compile();
        Bench.due("result after compile", forge.count(1), 46);
        Bench.due("word after compile", forge.word(45), last);
        Bench.tape(forge, Bench.unhex(LONG_FORMS));
        forge.module();
        Bench.due("result after module", forge.count(1), 46);
        Bench.due("emit of the module", forge.emit(), 16);
        Bench.due("result of the module", forge.count(1), 16);
        Bench.throwing("word behind it", IndexOutOfBoundsException.class, () -> forge.word(16));
        Bench.tape(forge, "fn");
        Bench.throwing("compile", UnsupportedOperationException.class, forge::compile);
        Bench.due("result after a refused one", forge.count(1), 16);
    }

    private static void words() {
        WaferForge forge = Bench.loaded(LONG_FORMS);
        Bench.throwing("word before emit", IndexOutOfBoundsException.class, () -> forge.word(0));
        forge.emit();
        Bench.due("word 0", forge.word(0), 0x0061736D01000000L);
        Bench.due("word 8", forge.word(8), 0x0184800001600000L);
        Bench.due("word 9 with a zero behind", forge.word(9), 0x8480000160000000L);
        Bench.due("word 13", forge.word(13), 0x6000000000000000L);
        Bench.due("word 15", forge.word(15), 0);
        Bench.throwing("word 16", IndexOutOfBoundsException.class, () -> forge.word(16));
        Bench.throwing("word -1", IndexOutOfBoundsException.class, () -> forge.word(-1));
        Bench.throwing("word of the greatest", IndexOutOfBoundsException.class, () -> forge.word(Integer.MAX_VALUE));
        Bench.throwing("word of the least", IndexOutOfBoundsException.class, () -> forge.word(Integer.MIN_VALUE));
    }
}
