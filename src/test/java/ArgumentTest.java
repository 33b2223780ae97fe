/** Promise 8: argument. */
public final class ArgumentTest {
    public static void main(String[] args) {
        WaferForge forge = new WaferForge();
        for (int i = 1; i <= 8; i++) {
            Bench.due("argument " + i, forge.argument(i * 10L), i);
        }
        Bench.throwing("argument 9", IndexOutOfBoundsException.class, () -> forge.argument(90));
        Bench.due("arguments", forge.count(8), 8);
        Bench.throwing("call of nothing", IllegalStateException.class, () -> forge.call(0));
        Bench.due("arguments without a module", forge.count(8), 8);
        Bench.tape(forge, "fn f(a: i64, b: i64, c: i64, d: i64, e: i64, g: i64, h: i64, i: i64): i64 {"
                + "return ((((((a * 3L + b) * 3L + c) * 3L + d) * 3L + e) * 3L + g) * 3L + h) * 3L + i; } fn n() { }");
        forge.compile();
        Bench.due("arguments after compile", forge.count(8), 8);
        Bench.throwing("no such function", IllegalArgumentException.class, () -> forge.call(2));
        Bench.throwing("no such function", IllegalArgumentException.class, () -> forge.call(-1));
        Bench.due("arguments after no such function", forge.count(8), 8);
        long wanted = 0;
        for (int i = 1; i <= 8; i++) {
            wanted = wanted * 3 + i * 10L;
        }
        Bench.due("in their order", forge.call(0), wanted);
        Bench.due("they go", forge.count(8), 0);
        Bench.due("argument again", forge.argument(Long.MIN_VALUE), 1);
        Bench.throwing("too many", IllegalArgumentException.class, () -> forge.call(1));
        Bench.due("they go also then", forge.count(8), 0);
        Bench.due("without", forge.call(1), 0);
        Bench.throwing("too few", IllegalArgumentException.class, () -> forge.call(0));
        Bench.finish();
    }
}
