/** Promise 5: module; what is VALID (reason 8), and that a refused one leaves the MODULE. */
public final class ModuleValidTest {
    public static void main(String[] args) {
        tables();
        operands();
        variables();
        memory();
        blocks();
        jumps();
        unreachable();
        numbers();
        moduleBeforeStays();
        Bench.finish();
    }

    private static void body(String type, String body, int reason) {
        Bench.judged("body " + body + " of type " + type, Bench.one(type, "00", body + " 0B"), reason);
    }

    private static void tables() {
        String type = Bench.section(1, "01 60 00 00");
        Bench.judged("no such type", Bench.HEAD + type + Bench.section(3, "01 01") + Bench.section(10, "01 02 00 0B"), 8);
        Bench.judged("2 pages", Bench.HEAD + Bench.section(5, "01 00 02"), 0);
        Bench.judged("3 pages", Bench.HEAD + Bench.section(5, "01 00 03"), 8);
        Bench.judged("2^32 - 1 pages", Bench.HEAD + Bench.section(5, "01 00 FF FF FF FF 0F"), 8);
        Bench.judged("most 65536", Bench.HEAD + Bench.section(5, "01 01 00 80 80 04"), 0);
        Bench.judged("most 65537", Bench.HEAD + Bench.section(5, "01 01 00 81 80 04"), 8);
        Bench.judged("most as the least", Bench.HEAD + Bench.section(5, "01 01 02 02"), 0);
        Bench.judged("most below the least", Bench.HEAD + Bench.section(5, "01 01 02 01"), 8);
        Bench.judged("a global of another type", Bench.HEAD + Bench.section(6, "01 7F 00 42 00 0B"), 8);
        Bench.judged("a global of another type", Bench.HEAD + Bench.section(6, "01 7E 00 41 00 0B"), 8);
        String function = Bench.HEAD + type + Bench.section(3, "01 00") + Bench.section(5, "01 00 00")
                + Bench.section(6, "01 7F 01 41 00 0B");
        String code = Bench.section(10, "01 02 00 0B");
        Bench.judged("exports", function + Bench.section(7, "04 01 61 00 00 01 62 02 00 01 63 03 00 02 61 61 00 00") + code, 0);
        for (String export : new String[] {"01 61 00 01", "01 61 02 01", "01 61 03 01", "01 62 00 00 01 61 03 05"}) {
            Bench.judged("no such export " + export, function
                    + Bench.section(7, (export.length() > 12 ? "02 " : "01 ") + export) + code, 8);
        }
        Bench.judged("no memory to export", Bench.HEAD + Bench.section(7, "01 01 61 02 00"), 8);
        Bench.judged("one name twice", function + Bench.section(7, "03 01 61 00 00 01 62 00 00 01 61 02 00") + code, 8);
        Bench.judged("the empty name twice", function + Bench.section(7, "02 00 00 00 00 03 00") + code, 8);
    }

    private static void operands() {
        body("00 00", "", 0);
        body("00 00", "41 00", 8);
        body("00 00", "1A", 8);
        body("00 01 7F", "41 00", 0);
        body("00 01 7F", "42 00", 8);
        body("00 01 7F", "", 8);
        body("00 01 7F", "41 00 41 00", 8);
        body("00 01 7E", "42 00 01", 0);
        body("00 01 7F", "41 00 41 01 41 02 1B", 0);
        body("00 01 7E", "42 00 42 01 41 02 1B", 0);
        body("00 01 7F", "41 00 42 01 41 02 1B", 8);
        body("00 01 7F", "41 00 41 01 42 02 1B", 8);
        body("00 01 7F", "41 00 41 02 1B", 8);
        body("02 7F 7E 01 7E", "20 00 20 01 10 00", 0);
        body("02 7F 7E 01 7E", "20 01 20 00 10 00", 8);
        body("02 7F 7E 01 7E", "20 00 10 00", 8);
        body("02 7F 7E 01 7E", "20 00 20 01 10 01", 8);
        body("00 00", "10 00", 0);
        body("00 00", "10 00 1A", 8);
    }

    private static void variables() {
        body("01 7F 00", "20 00 1A", 0);
        body("01 7F 00", "20 01 1A", 8);
        body("01 7F 00", "20 FF FF FF FF 07 1A", 8);
        body("01 7F 00", "41 00 21 00", 0);
        body("01 7F 00", "42 00 21 00", 8);
        body("01 7F 00", "21 00", 8);
        body("01 7F 00", "41 00 22 00 1A", 0);
        body("01 7F 00", "42 00 22 00 1A", 8);
        body("01 7F 00", "41 00 22 00", 8);
        Bench.judged("types of locals", Bench.one("01 7E 00", "02 02 7F 01 7E", "20 00 21 03 20 01 21 02 0B"), 0);
        Bench.judged("types of locals", Bench.one("01 7E 00", "02 02 7F 01 7E", "20 00 21 02 0B"), 8);
        Bench.judged("one local more", Bench.one("01 7E 00", "02 02 7F 01 7E", "20 04 1A 0B"), 8);
        String globals = "02 7F 00 41 00 0B 7E 01 42 00 0B";
        withGlobals(globals, "23 00 1A 23 01 24 01", 0);
        withGlobals(globals, "41 00 24 00", 8);
        withGlobals(globals, "41 00 24 01", 8);
        withGlobals(globals, "42 00 24 02", 8);
        withGlobals(globals, "23 02 1A", 8);
        withGlobals(globals, "23 FF FF FF FF 07 1A", 8);
        withGlobals(globals, "24 01", 8);
    }

    private static void withGlobals(String globals, String body, int reason) {
        Bench.judged("with globals " + body, Bench.HEAD + Bench.section(1, "01 60 00 00") + Bench.section(3, "01 00")
                + Bench.section(6, globals) + Bench.section(10, "01 " + Bench.sized("00 " + body + " 0B")), reason);
    }

    private static void memory() {
        String[] loads = {"28 02", "29 03", "2C 00", "2D 00"};
        String[] stores = {"36 02", "37 03", "3A 00"};
        String[] tooGreat = {"28 03", "29 04", "2C 01", "2D 01", "36 03", "37 04", "3A 01", "28 FF FF FF FF 07"};
        for (String load : loads) {
            body("00 00", "41 00 " + load + " 00 1A", 0);
            body("00 00", "42 00 " + load + " 00 1A", 8);
            body("00 00", "41 00 " + load + " 00", 8);
            body(load.startsWith("29") ? "00 01 7E" : "00 01 7F", "41 00 " + load + " 05", 0);
            body(load.startsWith("29") ? "00 01 7F" : "00 01 7E", "41 00 " + load + " 05", 8);
        }
        for (String store : stores) {
            String fits = store.startsWith("37") ? "42" : "41";
            String other = store.startsWith("37") ? "41" : "42";
            body("00 00", "41 00 " + fits + " 00 " + store + " 00", 0);
            body("00 00", "41 00 " + other + " 00 " + store + " 00", 8);
            body("00 00", "42 00 " + fits + " 00 " + store + " 00", 8);
            body("00 00", fits + " 00 " + store + " 00", 8);
        }
        for (String access : tooGreat) {
            body("00 00", "00 " + access + " 00", 8);
        }
        body("00 01 7F", "3F 00", 0);
        body("00 01 7F", "41 01 40 00", 0);
        body("00 01 7F", "40 00", 8);
        body("00 01 7F", "42 01 40 00", 8);
        for (String access : new String[] {"28 00 00", "37 00 00", "3F 00", "40 00"}) {
            Bench.judged("without memory " + access, Bench.HEAD + Bench.section(1, "01 60 00 00") + Bench.section(3, "01 00")
                    + Bench.section(10, "01 " + Bench.sized("00 00 " + access + " 0B")), 8);
        }
    }

    private static void blocks() {
        body("00 01 7F", "02 7F 41 00 0B", 0);
        body("00 01 7F", "03 7F 41 00 0B", 0);
        body("00 01 7F", "02 7E 41 00 0B", 8);
        body("00 01 7F", "02 7F 0B", 8);
        body("00 00", "02 40 41 00 0B 1A", 8);
        body("00 01 7F", "41 00 02 40 1A 0B", 8);
        body("00 01 7F", "41 00 02 40 0B", 0);
        body("00 01 7F", "41 00 04 7F 41 00 05 41 01 0B", 0);
        body("00 01 7F", "41 00 04 7F 41 00 0B", 8);
        body("00 01 7F", "41 00 04 7F 41 00 05 42 01 0B", 8);
        body("00 01 7F", "41 00 04 7F 41 00 05 0B", 8);
        body("00 01 7F", "41 00 04 7F 05 41 00 0B", 8);
        body("00 00", "41 00 04 40 0B", 0);
        body("00 00", "42 00 04 40 0B", 8);
        body("00 00", "04 40 0B", 8);
    }

    private static void jumps() {
        body("00 00", "0C 00", 0);
        body("00 00", "0C 01", 8);
        body("00 00", "0C FF FF FF FF 07", 8);
        body("00 01 7F", "41 00 0C 00", 0);
        body("00 01 7F", "0C 00", 8);
        body("00 01 7F", "02 7E 41 00 0C 01 0B 1A 41 00", 0);
        body("00 01 7F", "02 7E 42 00 0C 01 0B 1A 41 00", 8);
        body("00 00", "03 7F 0C 00 0B 1A", 0);
        body("00 01 7F", "02 7F 41 01 41 02 0D 00 0B", 0);
        body("00 01 7F", "02 7F 41 01 0D 00 41 00 0B", 8);
        body("00 01 7F", "02 7F 41 01 42 02 0D 00 0B", 8);
        body("00 00", "41 00 0D 00", 0);
        body("00 00", "41 00 0D 01", 8);
        body("00 00", "02 40 03 40 41 00 0E 02 00 01 02 0B 0B", 0);
        body("00 00", "02 40 03 40 41 00 0E 02 00 01 03 0B 0B", 8);
        body("00 00", "02 40 03 40 41 00 0E 02 00 60 02 0B 0B", 8);
        body("00 01 7F", "02 7F 41 00 41 00 0E 01 00 01 0B", 0);
        body("00 01 7F", "02 7E 41 00 41 00 0E 01 00 01 0B 1A 41 00", 8);
        body("00 01 7F", "02 40 41 00 41 00 0E 01 00 01 0B 41 00", 8);
        body("00 01 7F", "02 7F 41 00 42 00 0E 01 00 01 0B", 8);
        body("00 01 7F", "41 00 0F", 0);
        body("00 01 7F", "41 01 41 02 0F", 0);
        body("00 01 7F", "42 00 0F", 8);
        body("00 01 7F", "0F", 8);
        body("00 00", "0F", 0);
    }

    private static void unreachable() {
        body("00 01 7F", "00", 0);
        body("00 01 7F", "00 6A", 0);
        body("00 01 7F", "00 42 00 6A", 8);
        body("00 01 7F", "00 41 00 6A", 0);
        body("00 01 7F", "00 7C", 8);
        body("00 01 7F", "00 1B", 0);
        body("00 01 7F", "00 42 00 41 00 1B", 8);
        body("00 01 7E", "00 42 00 41 00 1B", 0);
        body("00 00", "00 1B 1A", 0);
        body("00 00", "00 41 00", 8);
        body("00 00", "0F 1A 1A", 0);
        body("00 01 7F", "02 40 00 0B", 8);
        body("00 01 7F", "02 7F 00 0B", 0);
        body("00 01 7F", "00 02 40 6A 0B", 8);
        body("00 01 7F", "00 02 7F 41 00 0B", 0);
        body("00 01 7F", "41 00 04 7F 00 05 41 00 0B", 0);
        body("00 00", "0C 00 0D 00", 0);
        body("00 01 7F", "02 7E 00 41 00 0D 00 0B A7", 0);
        body("00 01 7F", "02 7E 00 41 00 0D 00 A7 0B", 8);
        body("00 01 7F", "00 21 00", 8);
        body("00 01 7F", "02 7F 02 7E 00 0E 01 00 01 0B A7 0B", 8);
    }

    private static void numbers() {
        for (int op = 0x45; op <= 0xAD; op++) {
            boolean compares = op <= 0x5A;
            boolean known = compares || op >= 0x67 && op <= 0x8A || op == 0xA7 || op >= 0xAC;
            if (!known) {
                continue;
            }
            boolean one = op == 0x45 || op == 0x50 || op >= 0x67 && op <= 0x69 || op >= 0x79 && op <= 0x7B || op >= 0xA7;
            boolean ofLongs = op >= 0x50 && op <= 0x5A || op >= 0x79 && op <= 0x8A || op == 0xA7;
            boolean givesLong = op >= 0x79 && op <= 0x8A || op >= 0xAC;
            String fits = (ofLongs ? "42" : "41") + " 00 ";
            String other = (ofLongs ? "41" : "42") + " 00 ";
            String type = givesLong ? "00 01 7E" : "00 01 7F";
            String otherType = givesLong ? "00 01 7F" : "00 01 7E";
            String code = String.format("%02X", op);
            body(type, (one ? fits : fits + fits) + code, 0);
            body(otherType, (one ? fits : fits + fits) + code, 8);
            body(type, (one ? other : fits + other) + code, 8);
            body(type, (one ? "" : fits) + code, 8);
            if (!one) {
                body(type, other + fits + code, 8);
            }
        }
    }

    private static void moduleBeforeStays() {
        WaferForge forge = Bench.compiled("global k: i32 = 4; fn f(): i32 { k = k + 1; store8(0, k); return k; }");
        forge.call(0);
        String before = Bench.emitted(forge);
        for (String refused : new String[] {Bench.HEAD + "01", Bench.HEAD + Bench.section(6, "01 7F 00 42 00 0B")}) {
            Bench.tape(forge, Bench.unhex(refused));
            Bench.throwing("module", UnsupportedOperationException.class, forge::module);
            Bench.due("bytes", Bench.emitted(forge), before);
            Bench.due("functions", forge.count(4), 1);
            Bench.due("globals", forge.count(5), 1);
            Bench.due("global", forge.global(0), 5);
            Bench.due("memory", forge.memory(0), 5);
        }
        Bench.due("call", forge.call(0), 6);
        Bench.tape(forge, Bench.unhex(Bench.one("00 01 7F", "00", "41 2A 0B")));
        Bench.due("module answers", forge.module(), 1);
        Bench.due("the new one", forge.call(0), 42);
        Bench.due("its memory", forge.memory(0), 0);
        Bench.due("its globals", forge.count(5), 0);
        Bench.due("its bytes", Bench.emitted(forge), Bench.hex(Bench.unhex(Bench.one("00 01 7F", "00", "41 2A 0B"))));
    }
}
