/** What it is, "An object is used for at most 512 calls after it has been made": the 512th answers as the first. */
public final class CallsMostTest {
    private static final int MOST = 512;

    public static void main(String[] args) {
        longRuns();
        compiles();
        modules();
        refused();
        growingState();
        smallCalls();
        Bench.finish();
    }

    /** 2 for the tape, 1 to compile, and then runs of 100001 steps and of 100 calls within one another. */
    private static void longRuns() {
        WaferForge forge = new WaferForge();
        Bench.tape(forge, "fn w() { while 1 { } } fn r() { r(); }  ");
        int used = 1 + 2 + 1;
        forge.compile();
        used++;
        for (; used < MOST; used++) {
            boolean steps = used % 4 == 0;
            int f = steps ? 0 : 1;
            Bench.throwing("call " + used, ArithmeticException.class, () -> forge.call(f));
        }
    }

    private static void compiles() {
        WaferForge forge = new WaferForge();
        int used = 0;
        for (int round = 0; used + 7 <= MOST; round++) {
            Bench.tape(forge, "fn f(): i32 { return " + round + "; }");
            int bytes = forge.compile();
            used += 4 + 1;
            Bench.due("bytes of round " + round, bytes, round < 64 ? 51 : 52);
            Bench.due("call of round " + round, forge.call(0), round);
            Bench.due("steps of round " + round, forge.count(7), 2);
            used += 2;
        }
        for (; used < MOST; used++) {
            Bench.due("functions", forge.count(4), 1);
        }
    }

    private static void modules() {
        WaferForge forge = new WaferForge();
        int used = 0;
        for (int round = 0; used + 8 <= MOST; round++) {
            byte[] module = Bench.unhex(Bench.one("00 01 7F", "00", String.format("41 %02X 0B", round & 0x3F)));
            Bench.tape(forge, module);
            Bench.due("module of round " + round, forge.module(), 1);
            Bench.due("call of round " + round, forge.call(0), round & 0x3F);
            used += 2 + (module.length + 19) / 20 + 2;
        }
    }

    /** Refused programs and modules, and calls that throw, up to the 512th. */
    private static void refused() {
        WaferForge forge = Bench.compiled("fn f(): i32 { return 5; }");
        int used = 5;
        for (int round = 0; used + 10 <= MOST; round++) {
            Bench.tape(forge, "(".repeat(round % 20));
            Bench.throwing("compile", UnsupportedOperationException.class, forge::compile);
            Bench.due("reason", forge.count(2), 1);
            Bench.throwing("module", UnsupportedOperationException.class, forge::module);
            Bench.due("reason", forge.count(2), 7);
            Bench.due("call", forge.call(0), 5);
            Bench.throwing("call", IllegalArgumentException.class, () -> forge.call(1));
            used += 9;
        }
        for (; used < MOST - 1; used++) {
            Bench.throwing("global", IllegalArgumentException.class, () -> forge.global(0));
        }
        Bench.due("the last call", forge.call(0), 5);
    }

    /** What a run has put stays over as many runs as there can be. */
    private static void growingState() {
        WaferForge forge = new WaferForge();
        Bench.tape(forge, "global n: i64 = 0L; fn f(): i64 { n = n + 1L; store8(i32(n), 255); return n; }");
        forge.compile();
        int used = 1 + 5 + 1 + 1;
        for (int round = 1; used < MOST - 2; used++, round++) {
            Bench.due("round " + round, forge.call(0), round);
        }
        Bench.due("global", forge.global(0), MOST - 10);
        Bench.due("memory", forge.memory(MOST - 10), 255);
    }

    private static void smallCalls() {
        WaferForge forge = new WaferForge();
        for (int used = 0; used < MOST; used += 8) {
            Bench.due("feed", forge.feed(used, 1, 2, 3, 4), 20);
            Bench.due("end", forge.end(19), 19);
            Bench.due("find", forge.find(), -1);
            Bench.due("tape", forge.count(0), 0);
            int argument = used / 8;
            if (argument < 8) {
                Bench.due("argument", forge.argument(used), argument + 1);
            } else {
                Bench.throwing("argument", IndexOutOfBoundsException.class, () -> forge.argument(1));
            }
            Bench.throwing("emit", IllegalStateException.class, forge::emit);
            Bench.throwing("word", IndexOutOfBoundsException.class, () -> forge.word(0));
            Bench.due("arguments", forge.count(8), Math.min(argument + 1, 8));
        }
    }
}
