import java.util.Arrays;

/**
 * Promise 5: modules with one byte of each other value at each place, with one byte less or more, and cut off
 * anywhere are judged (7, 8 or taken) as by a second reader.
 */
public final class ModuleSweepTest {
    private static final int MODULES_OF_ONE_OBJECT = 20;
    private static WaferForge forge;
    private static int used;
    private static int functions;
    private static final int[] seen = new int[9];

    public static void main(String[] args) {
        for (String module : new String[] {ofTables(), ofBranches(), ofMemory(), ofUnreachable(), ofProgram()}) {
            byte[] bytes = Bench.unhex(module);
            functions = -1;
            forge = null;
            compare(bytes);
            Bench.due("the module itself is taken: " + module, Judge.reason(bytes), 0);
            otherValues(bytes);
            lessAndMore(bytes);
            cutOff(bytes);
        }
        Bench.due("some were taken", seen[0] > 1000 ? 1 : 0, 1);
        Bench.due("some were not READ", seen[7] > 1000 ? 1 : 0, 1);
        Bench.due("some were not VALID", seen[8] > 1000 ? 1 : 0, 1);
        Bench.finish();
    }

    private static void otherValues(byte[] bytes) {
        for (int i = 0; i < bytes.length; i++) {
            for (int value = 0; value < 256; value++) {
                byte[] changed = bytes.clone();
                changed[i] = (byte) value;
                compare(changed);
            }
        }
    }

    private static void lessAndMore(byte[] bytes) {
        for (int i = 0; i < bytes.length; i++) {
            byte[] less = Arrays.copyOf(bytes, bytes.length - 1);
            System.arraycopy(bytes, i + 1, less, i, bytes.length - i - 1);
            compare(less);
            byte[] more = Arrays.copyOf(bytes, bytes.length + 1);
            System.arraycopy(bytes, i, more, i + 1, bytes.length - i);
            compare(more);
            byte[] zero = more.clone();
            zero[i] = 0;
            compare(zero);
        }
    }

    private static void cutOff(byte[] bytes) {
        for (int length = 0; length < bytes.length; length++) {
            compare(Arrays.copyOf(bytes, length));
        }
    }

    private static void compare(byte[] bytes) {
        if (forge == null || used == MODULES_OF_ONE_OBJECT) {
            forge = new WaferForge();
            functions = -1;
            used = 0;
        }
        used++;
        Bench.tape(forge, bytes);
        int answered = -1;
        try {
            answered = forge.module();
            functions = answered;
        } catch (UnsupportedOperationException e) {
            Bench.due("place behind a refused module", forge.count(3), -1);
        }
        int due = Judge.reason(bytes);
        seen[due]++;
        String got = forge.count(2) + (answered >= 0 ? " taken " : " refused ") + forge.count(4);
        String wanted = due + (due == 0 ? " taken " : " refused ") + functions;
        if (!got.equals(wanted)) {
            Bench.due(Bench.hex(bytes), got, wanted);
        }
    }

    private static String ofTables() {
        return Bench.HEAD + Bench.section(0, "02 61 FF 00 01") + Bench.section(1, "03 60 00 00 60 02 7F 7E 01 7E 60 01 7F 00")
                + Bench.section(3, "03 01 00 02") + Bench.section(5, "01 01 02 80 80 04")
                + Bench.section(0, "00") + Bench.section(6, "03 7F 01 41 FF 00 0B 7E 00 42 80 80 7F 0B 7F 00 41 05 0B")
                + Bench.section(7, "05 01 61 00 01 01 62 02 00 02 61 62 03 02 00 00 00 01 FF 03 00")
                + Bench.section(10, "03 " + Bench.sized("02 02 7F 01 7E 20 01 0B") + Bench.sized("00 0B")
                + Bench.sized("01 03 7E 20 00 24 00 41 07 42 08 10 00 21 03 0B"));
    }

    private static String ofBranches() {
        return Bench.one("01 7F 01 7F", "01 01 7E",
                "02 7F 41 07 20 00 0D 00 1A 41 09 0B 21 00 "
                + "02 40 02 40 20 00 0E 02 00 01 00 0B 01 0B "
                + "03 40 20 00 45 0D 00 0B "
                + "20 00 04 7E 42 05 05 42 06 0C 00 0B 22 01 50 04 40 20 00 0F 0B "
                + "20 00 04 40 05 0B 20 01 42 02 20 00 1B A7 0B");
    }

    private static String ofMemory() {
        return Bench.one("02 7F 7E 00", "00",
                "20 00 20 01 37 03 08 20 00 20 00 36 02 FF FF FF FF 0F 20 00 41 80 7F 3A 00 00 "
                + "20 00 29 02 01 1A 20 00 28 01 80 00 20 00 2C 00 02 6A 1A 20 00 2D 00 03 40 00 3F 00 6F 1A 0B");
    }

    private static String ofUnreachable() {
        return Bench.one("00 01 7E", "00",
                "02 7E 00 1B 1A 6A AC 7C 0B 1A 02 7F 42 00 0C 01 45 0B 1A 03 40 0C 00 0B "
                + "02 40 41 00 0E 01 00 00 1A 0B 42 07 0F 7A A7 AC 0B");
    }

    private static String ofProgram() {
        return Bench.emitted(Bench.compiled("global g: i64 = -129L; fn a(x: i32): i64 { var y: i64 = g; "
                + "while x > 0 && y < 9L { x = x - 1; if x == 3 { continue; } y = y + a(x); } return y; } fn b() { trap(); }"));
    }
}
