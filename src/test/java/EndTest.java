/** Promise 3: end. */
public final class EndTest {
    public static void main(String[] args) {
        WaferForge forge = new WaferForge();
        Bench.due("end 0 of none", forge.end(0), 0);
        Bench.throwing("end 1 of none", IllegalArgumentException.class, () -> forge.end(1));
        forge.feed(1, 2, 3, 4, 5);
        Bench.throwing("end -1", IllegalArgumentException.class, () -> forge.end(-1));
        Bench.throwing("end 21", IllegalArgumentException.class, () -> forge.end(21));
        Bench.throwing("end of the greatest", IllegalArgumentException.class, () -> forge.end(Integer.MAX_VALUE));
        Bench.throwing("end of the least", IllegalArgumentException.class, () -> forge.end(Integer.MIN_VALUE));
        Bench.due("the tape stays", forge.count(0), 20);
        Bench.due("end 20", forge.end(20), 20);
        Bench.due("end 7", forge.end(7), 7);
        Bench.due("tape", forge.count(0), 7);
        Bench.throwing("end 8 of 7", IllegalArgumentException.class, () -> forge.end(8));
        firstBytesStay();
        Bench.finish();
    }

    private static void firstBytesStay() {
        WaferForge forge = new WaferForge();
        Bench.tape(forge, "fn f(): i32 { return 12; }");
        forge.end(20);
        forge.feed(0x20333B7D, 0x20202020, 0x20202020, 0x20202020, 0x20202020);
        forge.compile();
        Bench.due("first bytes, and what came behind", forge.call(0), 3);
    }
}
