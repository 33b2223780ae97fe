/** Promise 5: module; what is READ (reason 7). */
public final class ModuleReadTest {
    private static final String EMPTY_TYPE = Bench.section(1, "01 60 00 00");
    private static final String ONE_FUNCTION = Bench.section(3, "01 00");
    private static final String EMPTY_CODE = Bench.section(10, "01 02 00 0B");
    private static final String LEAST = Bench.HEAD + EMPTY_TYPE + ONE_FUNCTION + EMPTY_CODE;

    public static void main(String[] args) {
        heads();
        sections();
        otherSections();
        numbers();
        types();
        functionsAndCodes();
        memories();
        globals();
        exports();
        locals();
        instructions();
        blocks();
        cutAnywhere();
        Bench.finish();
    }

    private static void heads() {
        Bench.judged("nothing", "", 7);
        Bench.judged("only the head", Bench.HEAD, 0);
        Bench.judged("half of the head", "00 61 73 6D 01 00 00", 7);
        byte[] head = Bench.unhex(Bench.HEAD);
        for (int i = 0; i < head.length; i++) {
            head[i] ^= 1;
            Bench.judged("head with a wrong byte " + i, Bench.hex(head), 7);
            head[i] ^= 1;
        }
        WaferForge forge = Bench.loaded(LEAST);
        Bench.due("functions", forge.count(4), 1);
        Bench.tape(forge, Bench.unhex(Bench.HEAD));
        Bench.due("module answers", forge.module(), 0);
        Bench.due("pages without memory", forge.count(6), 0);
    }

    private static void sections() {
        Bench.judged("the least", LEAST, 0);
        Bench.judged("two of one kind", Bench.HEAD + EMPTY_TYPE + EMPTY_TYPE + ONE_FUNCTION + EMPTY_CODE, 7);
        Bench.judged("falling", Bench.HEAD + ONE_FUNCTION + EMPTY_TYPE + EMPTY_CODE, 7);
        Bench.judged("code before function", Bench.HEAD + EMPTY_TYPE + EMPTY_CODE + ONE_FUNCTION, 7);
        for (int id : new int[] {2, 4, 8, 9, 11, 12, 127, 128, 255}) {
            Bench.judged("section " + id, LEAST + Bench.section(id, "00"), 7);
            Bench.judged("section " + id + " alone", Bench.HEAD + Bench.section(id, "00"), 7);
        }
        for (int id : new int[] {1, 3, 5, 6, 7, 10}) {
            Bench.judged("none in section " + id, Bench.HEAD + Bench.section(id, "00"), 0);
            Bench.judged("no count in section " + id, Bench.HEAD + Bench.section(id, ""), 7);
            Bench.judged("a byte too many in section " + id, Bench.HEAD + Bench.section(id, "00 00"), 7);
            Bench.judged("too long a size of section " + id, Bench.HEAD + String.format("%02X 02 00", id), 7);
            Bench.judged("no size of section " + id, Bench.HEAD + String.format("%02X", id), 7);
        }
        Bench.judged("types beyond the section", Bench.HEAD + "01 03 01 60 00 00" + ONE_FUNCTION + EMPTY_CODE, 7);
        Bench.judged("code beyond the section", Bench.HEAD + EMPTY_TYPE + ONE_FUNCTION + "0A 03 01 02 00 0B", 7);
    }

    private static void otherSections() {
        String other = Bench.section(0, "01 41 FF 00");
        Bench.judged("section 0 anywhere", Bench.HEAD + other + other + EMPTY_TYPE + other + ONE_FUNCTION + other
                + EMPTY_CODE + other, 0);
        Bench.judged("section 0 with an empty name", LEAST + Bench.section(0, "00"), 0);
        Bench.judged("section 0 with any bytes in its name", LEAST + Bench.section(0, "02 FF 80"), 0);
        Bench.judged("section 0 without a length", LEAST + Bench.section(0, ""), 7);
        Bench.judged("section 0 with a broken length", LEAST + Bench.section(0, "80 80 80 80 80 00"), 7);
        Bench.judged("section 0 with too long a name", LEAST + Bench.section(0, "03 41 42"), 7);
        Bench.judged("section 0 beyond the end", LEAST + "00 05 01 41", 7);
    }

    private static void numbers() {
        Bench.judged("a long form", Bench.HEAD + "01 88 80 80 80 00 81 80 80 80 00 60 00 00"
                + ONE_FUNCTION + EMPTY_CODE.replace("0A 04", "0A 84 00"), 0);
        Bench.judged("six bytes", Bench.HEAD + "01 84 80 80 80 80 00 01 60 00 00" + ONE_FUNCTION + EMPTY_CODE, 7);
        Bench.judged("other bits", Bench.HEAD + "01 84 80 80 80 10 01 60 00 00" + ONE_FUNCTION + EMPTY_CODE, 7);
        constant("41 FF FF FF FF 07", 0);
        constant("41 80 80 80 80 78", 0);
        constant("41 80 80 80 80 70", 7);
        constant("41 FF FF FF FF 0F", 7);
        constant("41 FF FF FF FF 4F", 7);
        constant("41 FF FF FF FF 7F", 0);
        constant("41 80 80 80 80 80 00", 7);
        constant("42 FF FF FF FF FF FF FF FF FF 00", 0);
        constant("42 80 80 80 80 80 80 80 80 80 7F", 0);
        constant("42 80 80 80 80 80 80 80 80 80 01", 7);
        constant("42 80 80 80 80 80 80 80 80 80 7E", 7);
        constant("42 80 80 80 80 80 80 80 80 80 80 00", 7);
        WaferForge forge = Bench.loaded(Bench.HEAD + Bench.section(6, "04 7F 00 41 C0 BB 78 0B 7F 00 41 FF FF FF FF 7F 0B"
                + "7E 00 42 80 80 80 80 80 80 80 80 80 7F 0B 7E 00 42 FF FF FF FF FF FF FF FF FF 00 0B"));
        Bench.due("-123456", forge.global(0), -123456);
        Bench.due("-1", forge.global(1), -1);
        Bench.due("least", forge.global(2), Long.MIN_VALUE);
        Bench.due("greatest", forge.global(3), Long.MAX_VALUE);
    }

    private static void constant(String hex, int reason) {
        Bench.judged("constant " + hex, Bench.one("00 00", "00", hex + " 1A 0B"), reason);
        String type = hex.startsWith("41") ? "7F" : "7E";
        Bench.judged("global " + hex, Bench.HEAD + Bench.section(6, "01 " + type + " 00 " + hex + " 0B"), reason);
    }

    private static void types() {
        Bench.judged("20 types", Bench.HEAD + Bench.section(1, "14 " + Bench.repeat(20, "60 00 00")), 0);
        Bench.judged("21 types", Bench.HEAD + Bench.section(1, "15 " + Bench.repeat(21, "60 00 00")), 7);
        Bench.judged("8 parameters", Bench.HEAD + Bench.section(1, "01 60 08 " + Bench.repeat(8, "7E") + "01 7F"), 0);
        Bench.judged("9 parameters", Bench.HEAD + Bench.section(1, "01 60 09 " + Bench.repeat(9, "7E") + "01 7F"), 7);
        Bench.judged("2 results", Bench.HEAD + Bench.section(1, "01 60 00 02 7F 7F"), 7);
        Bench.judged("not 60", Bench.HEAD + Bench.section(1, "01 61 00 00"), 7);
        for (String type : new String[] {"7D", "7C", "7B", "70", "6F", "40", "00", "FF"}) {
            Bench.judged("parameter of " + type, Bench.HEAD + Bench.section(1, "01 60 01 " + type + " 00"), 7);
            Bench.judged("result of " + type, Bench.HEAD + Bench.section(1, "01 60 00 01 " + type), 7);
            Bench.judged("local of " + type, Bench.one("00 00", "01 01 " + type, "0B"), 7);
        }
    }

    private static void functionsAndCodes() {
        String functions30 = Bench.section(3, "1E " + Bench.repeat(30, "00"));
        String codes30 = Bench.section(10, "1E " + Bench.repeat(30, "02 00 0B"));
        Bench.judged("30 functions", Bench.HEAD + EMPTY_TYPE + functions30 + codes30, 0);
        Bench.judged("31 functions", Bench.HEAD + EMPTY_TYPE + Bench.section(3, "1F " + Bench.repeat(31, "00"))
                + Bench.section(10, "1F " + Bench.repeat(31, "02 00 0B")), 7);
        Bench.judged("30 functions, 29 codes", Bench.HEAD + EMPTY_TYPE + functions30
                + Bench.section(10, "1D " + Bench.repeat(29, "02 00 0B")), 7);
        Bench.judged("a function without codes", Bench.HEAD + EMPTY_TYPE + ONE_FUNCTION, 7);
        Bench.judged("a code without functions", Bench.HEAD + EMPTY_TYPE + EMPTY_CODE, 7);
        Bench.judged("a type of 2^31 - 1", Bench.HEAD + EMPTY_TYPE + Bench.section(3, "01 FF FF FF FF 07") + EMPTY_CODE, 8);
        Bench.judged("a type of 2^31", Bench.HEAD + EMPTY_TYPE + Bench.section(3, "01 80 80 80 80 08") + EMPTY_CODE, 7);
        Bench.judged("too short a code", Bench.HEAD + EMPTY_TYPE + ONE_FUNCTION + Bench.section(10, "01 01 00"), 7);
        Bench.judged("a byte behind the end", Bench.HEAD + EMPTY_TYPE + ONE_FUNCTION + Bench.section(10, "01 03 00 0B 01"), 7);
        Bench.judged("an end behind the end", Bench.HEAD + EMPTY_TYPE + ONE_FUNCTION + Bench.section(10, "01 03 00 0B 0B"), 7);
        Bench.judged("no end", Bench.HEAD + EMPTY_TYPE + ONE_FUNCTION + Bench.section(10, "01 02 00 01"), 7);
    }

    private static void memories() {
        for (String memory : new String[] {"00", "01 00 00", "01 00 02", "01 01 00 00", "01 01 02 80 80 04"}) {
            Bench.judged("memory " + memory, Bench.HEAD + Bench.section(5, memory), 0);
        }
        for (String memory : new String[] {"02 00 01 00 01", "01 02 01 01", "01 03 01 01", "01 00", "01 01 01",
            "01 00 01 01", "01 80 00 01", "01 00 80 80 80 80 10"}) {
            Bench.judged("memory " + memory, Bench.HEAD + Bench.section(5, memory), 7);
        }
    }

    private static void globals() {
        Bench.judged("20 globals", Bench.HEAD + Bench.section(6, "14 " + Bench.repeat(20, "7F 00 41 00 0B")), 0);
        Bench.judged("21 globals", Bench.HEAD + Bench.section(6, "15 " + Bench.repeat(21, "7F 00 41 00 0B")), 7);
        for (String global : new String[] {"7D 00 43 00 00 00 00 0B", "7F 02 41 00 0B", "7F 00 41 00", "7F 00 0B",
            "7F 00 23 00 0B", "7F 00 41 00 01 0B", "7F 00 41 00 41 00 0B", "7F 80 00 41 00 0B"}) {
            Bench.judged("global " + global, Bench.HEAD + Bench.section(6, "01 " + global), 7);
        }
    }

    private static void exports() {
        StringBuilder many = new StringBuilder();
        for (int i = 0; i < 40; i++) {
            many.append(String.format("01 %02X 03 00 ", i + 65));
        }
        String global = Bench.section(6, "01 7F 00 41 00 0B");
        Bench.judged("40 exports", Bench.HEAD + global + Bench.section(7, "28 " + many), 0);
        Bench.judged("41 exports", Bench.HEAD + global + Bench.section(7, "29 " + many + "01 40 03 00"), 7);
        Bench.judged("a name of 30", Bench.HEAD + global + Bench.section(7, "01 1E " + Bench.repeat(30, "FF") + "03 00"), 0);
        Bench.judged("a name of 31", Bench.HEAD + global + Bench.section(7, "01 1F " + Bench.repeat(31, "41") + "03 00"), 7);
        Bench.judged("a name of none", Bench.HEAD + global + Bench.section(7, "01 00 03 00"), 0);
        for (String kind : new String[] {"01", "04", "80 00", "FF"}) {
            Bench.judged("export of kind " + kind, Bench.HEAD + global + Bench.section(7, "01 01 41 " + kind + " 00"), 7);
        }
        Bench.judged("export of 2^31", Bench.HEAD + global + Bench.section(7, "01 01 41 03 80 80 80 80 08"), 7);
        Bench.judged("export of 2^31 - 1", Bench.HEAD + global + Bench.section(7, "01 01 41 03 FF FF FF FF 07"), 8);
        Bench.judged("too few bytes of a name", Bench.HEAD + global + Bench.section(7, "01 04 41 03 00"), 7);
    }

    private static void locals() {
        Bench.judged("60 of one run", Bench.one("00 00", "01 3C 7F", "0B"), 0);
        Bench.judged("61 of one run", Bench.one("00 00", "01 3D 7F", "0B"), 7);
        Bench.judged("60 runs", Bench.one("00 00", "3C " + Bench.repeat(60, "01 7E"), "0B"), 0);
        Bench.judged("60 runs and more", Bench.one("00 00", "3C " + Bench.repeat(59, "01 7E") + "02 7F", "0B"), 7);
        Bench.judged("61 runs", Bench.one("00 00", "3D " + Bench.repeat(61, "00 7E"), "0B"), 7);
        Bench.judged("60 empty runs", Bench.one("00 00", "3C " + Bench.repeat(60, "00 7E"), "0B"), 0);
        Bench.judged("31 and 30", Bench.one("00 00", "02 1F 7E 1E 7F", "0B"), 7);
        Bench.judged("8 parameters and 60", Bench.one("08 " + Bench.repeat(8, "7F") + "00", "01 3C 7F", "0B"), 0);
        Bench.judged("2^32 - 1 of one run", Bench.one("00 00", "01 FF FF FF FF 0F 7F", "0B"), 7);
    }

    /** Of an instruction that is not READ the reason is 7, whatever else is wrong; of the others 8, as nothing fits them. */
    private static void instructions() {
        for (int op = 0; op < 256; op++) {
            if (op == 0x0B) {
                continue;
            }
            boolean plain = op <= 0x01 || op == 0x0F || op == 0x1A || op == 0x1B || op >= 0x45 && op <= 0x5A
                    || op >= 0x67 && op <= 0x8A || op == 0xA7 || op == 0xAC || op == 0xAD;
            boolean access = op == 0x28 || op == 0x29 || op == 0x2C || op == 0x2D || op == 0x36 || op == 0x37 || op == 0x3A;
            boolean index = op == 0x0C || op == 0x0D || op == 0x10 || op >= 0x20 && op <= 0x24 || op >= 0x3F && op <= 0x42;
            boolean block = op >= 0x02 && op <= 0x04;
            String rest = plain ? "" : access ? " 00 00" : index ? " 00" : block ? " 40 0B" : op == 0x0E ? " 00 00" : "";
            boolean read = plain || access || index || block || op == 0x0E;
            Bench.judged("instruction " + op, Bench.HEAD + EMPTY_TYPE + Bench.section(3, "01 09")
                    + Bench.section(10, "01 " + Bench.sized(String.format("00 %02X", op) + rest + " 0B")), read ? 8 : 7);
        }
        for (String code : new String[] {"3F 01 1A", "41 00 40 01 1A", "3F 80 00 1A", "0C 80 80 80 80 08",
            "20 80 80 80 80 08", "10 FF FF FF FF 0F", "41 00 28 80 80 80 80 08 00 1A", "41 00 28 00 80 80 80 80 10 1A",
            "02 7D 0B", "02 00 0B", "02 C0 00 0B", "41 00 04 70 0B", "05", "02 40 05 0B", "41 00 04 40 05 05 0B",
            "41 00 0E 33 " + Bench.repeat(52, "00")}) {
            Bench.judged("code " + code, Bench.one("00 00", "00", code + " 0B"), 7);
        }
        for (String code : new String[] {"3F 00 1A", "41 00 28 02 FF FF FF FF 0F 1A", "41 00 28 82 80 80 80 00 00 1A",
            "41 00 04 40 05 0B", "41 00 0E 32 " + Bench.repeat(51, "00")}) {
            Bench.judged("code " + code, Bench.one("00 00", "00", code + " 0B"), 0);
        }
    }

    private static void blocks() {
        for (String block : new String[] {"02 40", "03 40", "41 00 04 40"}) {
            Bench.judged("100 blocks of " + block, Bench.one("00 00", "00", Bench.repeat(100, block) + Bench.repeat(101, "0B")), 0);
            Bench.judged("101 blocks of " + block, Bench.one("00 00", "00", Bench.repeat(101, block) + Bench.repeat(102, "0B")), 7);
            Bench.judged("an open " + block, Bench.one("00 00", "00", block + " 0B"), 7);
        }
        Bench.judged("many blocks behind one another", Bench.one("00 00", "00", Bench.repeat(150, "02 40 0B") + "0B"), 0);
    }

    private static void cutAnywhere() {
        byte[] whole = Bench.unhex(Bench.HEAD + EMPTY_TYPE + ONE_FUNCTION + Bench.section(5, "01 00 01")
                + Bench.section(6, "01 7E 01 42 C0 00 0B") + Bench.section(7, "01 01 66 00 00")
                + Bench.section(10, "01 05 01 01 7F 01 0B"));
        Bench.judged("whole", Bench.hex(whole), 0);
        int behindTypes = Bench.unhex(Bench.HEAD + EMPTY_TYPE).length;
        for (int i = 9; i < whole.length; i++) {
            // types alone make a module; functions ask for codes
            Bench.judged("cut at " + i, Bench.hex(java.util.Arrays.copyOf(whole, i)), i == behindTypes ? 0 : 7);
        }
    }
}
