/** Promise 7: find. */
public final class FindTest {
    public static void main(String[] args) {
        compiled();
        anyNames();
        Bench.finish();
    }

    private static void found(WaferForge forge, byte[] name, int wanted) {
        Bench.tape(forge, name);
        Bench.due("find " + Bench.hex(name), forge.find(), wanted);
        Bench.due("tape after find", forge.count(0), 0);
    }

    private static void compiled() {
        WaferForge forge = new WaferForge();
        found(forge, Bench.bytes("f"), -1);
        Bench.tape(forge, "global g: i32 = 1; fn f() { } fn ff() { } fn g() { } fn F() { }");
        forge.compile();
        String[] names = {"f", "ff", "g", "F"};
        for (int i = 0; i < names.length; i++) {
            found(forge, Bench.bytes(names[i]), i);
        }
        for (String none : new String[] {"", "fff", "memory", "f ", " f", "gg", "f".repeat(100)}) {
            found(forge, Bench.bytes(none), -1);
        }
        Bench.due("reason", forge.count(2), 0);
    }

    private static void anyNames() {
        String module = Bench.HEAD + Bench.section(1, "01 60 00 00") + Bench.section(3, "03 00 00 00")
                + Bench.section(5, "01 00 01") + Bench.section(6, "01 7F 00 41 00 0B")
                + Bench.section(7, "06 01 61 00 02 00 00 01 02 FF 00 00 00 01 67 03 00 01 6D 02 00 1E "
                        + Bench.repeat(30, "62") + "00 02")
                + Bench.section(10, "03 02 00 0B 02 00 0B 02 00 0B");
        WaferForge forge = Bench.loaded(module);
        found(forge, Bench.bytes("a"), 2);
        found(forge, new byte[0], 1);
        found(forge, new byte[] {-1, 0}, 0);
        found(forge, Bench.bytes("g"), -1);
        found(forge, Bench.bytes("m"), -1);
        found(forge, Bench.bytes("b".repeat(30)), 2);
        found(forge, Bench.bytes("b".repeat(31)), -1);
        found(forge, Bench.bytes("b".repeat(29)), -1);
    }
}
