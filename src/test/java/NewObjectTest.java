/** Promise 1: a new object. */
public final class NewObjectTest {
    public static void main(String[] args) {
        WaferForge forge = new WaferForge();
        int[] wanted = {0, 0, 0, -1, -1, -1, -1, 0, 0};
        for (int what = 0; what < wanted.length; what++) {
            Bench.due("count " + what, forge.count(what), wanted[what]);
        }
        Bench.throwing("emit", IllegalStateException.class, forge::emit);
        Bench.throwing("call", IllegalStateException.class, () -> forge.call(0));
        Bench.throwing("call -1", IllegalStateException.class, () -> forge.call(-1));
        Bench.throwing("global", IllegalStateException.class, () -> forge.global(0));
        Bench.throwing("memory", IllegalStateException.class, () -> forge.memory(0));
        Bench.throwing("word", IndexOutOfBoundsException.class, () -> forge.word(0));
        Bench.due("find", forge.find(), -1);
        twoObjectsAreApart();
        Bench.finish();
    }

    private static void twoObjectsAreApart() {
        WaferForge one = Bench.compiled("fn f(): i32 { return 7; }");
        WaferForge other = new WaferForge();
        Bench.due("functions of one", one.count(4), 1);
        Bench.due("functions of the other", other.count(4), -1);
        Bench.due("call of one", one.call(0), 7);
    }
}
