import java.util.function.IntFunction;

/** Promise 5, VALID: each index, alignment, page and type, the last one that is taken and the first that is not. */
public final class ValidEdgesTest {
    private static final String EMPTY_TYPE = Bench.section(1, "01 60 00 00");

    public static void main(String[] args) {
        indicesOfTypes();
        indicesOfFunctions();
        indicesOfLocals();
        indicesOfGlobals();
        indicesOfExports();
        labels();
        alignments();
        pages();
        namesOfExports();
        typesOfGlobals();
        withoutMemory();
        heights();
        results();
        whatCannotBeReached();
        Bench.finish();
    }

    private static void edge(String what, int there, IntFunction<String> module) {
        for (int i = 0; i < there; i += Math.max(1, there - 2)) {
            Bench.judged(what + " " + i + " of " + there, module.apply(i), 0);
        }
        if (there > 0) {
            Bench.judged(what + " " + (there - 1) + " of " + there, module.apply(there - 1), 0);
        }
        Bench.judged(what + " " + there + " of " + there, module.apply(there), 8);
        Bench.judged(what + " " + (there + 1) + " of " + there, module.apply(there + 1), 8);
        Bench.judged(what + " of the greatest", module.apply(Integer.MAX_VALUE), 8);
    }

    private static void indicesOfTypes() {
        for (int types : new int[] {0, 1, 2, 20}) {
            edge("type", types, i -> Bench.HEAD + Bench.section(1, Bench.unsigned(types) + Bench.repeat(types, " 60 00 00"))
                    + Bench.section(3, "01 " + Bench.unsigned(i)) + Bench.section(10, "01 02 00 0B"));
        }
    }

    private static void indicesOfFunctions() {
        for (int functions : new int[] {1, 2, 30}) {
            edge("call", functions, i -> Bench.HEAD + EMPTY_TYPE + Bench.section(3, Bench.unsigned(functions) + Bench.repeat(functions, " 00"))
                    + Bench.section(10, Bench.unsigned(functions) + " " + Bench.sized("00 10 " + Bench.unsigned(i) + " 0B")
                    + Bench.repeat(functions - 1, " 02 00 0B")));
        }
    }

    private static void indicesOfLocals() {
        for (int parameters : new int[] {0, 1, 8}) {
            for (int locals : new int[] {0, 1, 60}) {
                String type = Bench.unsigned(parameters) + Bench.repeat(parameters, " 7F") + " 00";
                String runs = "01 " + Bench.unsigned(locals) + " 7F";
                edge("local.get", parameters + locals, i -> Bench.one(type, runs, "20 " + Bench.unsigned(i) + " 1A 0B"));
                edge("local.set", parameters + locals, i -> Bench.one(type, runs, "41 00 21 " + Bench.unsigned(i) + " 0B"));
                edge("local.tee", parameters + locals, i -> Bench.one(type, runs, "41 00 22 " + Bench.unsigned(i) + " 1A 0B"));
            }
        }
        // the locals of the next function are none of this one's
        for (int i = 59; i <= 61; i++) {
            Bench.judged("local " + i + " of the first", Bench.HEAD + EMPTY_TYPE + Bench.section(3, "02 00 00") + Bench.section(10, "02 "
                    + Bench.sized("01 3C 7F 20 " + Bench.unsigned(i) + " 1A 0B") + " 04 01 3C 7F 0B"), i < 60 ? 0 : 8);
        }
        // of which type each is: 2 parameters, then runs of 1, 0, 2 and 1
        String type = "02 7E 7F 00";
        String runs = "04 01 7E 00 7F 02 7F 01 7E";
        String[] types = {"7E", "7F", "7E", "7F", "7F", "7E"};
        for (int i = 0; i < types.length; i++) {
            boolean isInt = types[i].equals("7F");
            Bench.judged("type of " + i, Bench.one(type, runs, (isInt ? "41" : "42") + String.format(" 00 21 %02X 0B", i)), 0);
            Bench.judged("other type of " + i, Bench.one(type, runs, (isInt ? "42" : "41") + String.format(" 00 21 %02X 0B", i)), 8);
            Bench.judged("get of " + i, Bench.one(type, runs, String.format("20 %02X %s 1A 0B", i, isInt ? "45" : "50")), 0);
            Bench.judged("other get of " + i, Bench.one(type, runs, String.format("20 %02X %s 1A 0B", i, isInt ? "50" : "45")), 8);
            Bench.judged("tee of " + i, Bench.one(type, runs, (isInt ? "41" : "42") + String.format(" 00 22 %02X %s 1A 0B", i, isInt ? "45" : "50")), 0);
            Bench.judged("other tee of " + i, Bench.one(type, runs, (isInt ? "42" : "41") + String.format(" 00 22 %02X 1A 0B", i)), 8);
        }
    }

    private static String withGlobals(int globals, String change, String body) {
        return Bench.HEAD + EMPTY_TYPE + Bench.section(3, "01 00") + Bench.section(6, Bench.unsigned(globals)
                + Bench.repeat(globals, " 7F " + change + " 41 00 0B")) + Bench.section(10, "01 " + Bench.sized("00 " + body + " 0B"));
    }

    private static void indicesOfGlobals() {
        for (int globals : new int[] {0, 1, 20}) {
            edge("global.get", globals, i -> withGlobals(globals, "00", "23 " + Bench.unsigned(i) + " 1A"));
            edge("global.set", globals, i -> withGlobals(globals, "01", "41 00 24 " + Bench.unsigned(i)));
        }
        Bench.judged("one that can't change", withGlobals(1, "00", "41 00 24 00"), 8);
        Bench.judged("one that can't change, where nothing gets", withGlobals(1, "00", "00 24 00"), 8);
        Bench.judged("of another type", withGlobals(1, "01", "42 00 24 00"), 8);
        Bench.judged("of another type", withGlobals(1, "01", "23 00 50 1A"), 8);
    }

    private static void indicesOfExports() {
        for (int there : new int[] {0, 1, 20}) {
            String functions = Bench.HEAD + EMPTY_TYPE + Bench.section(3, Bench.unsigned(there) + Bench.repeat(there, " 00"));
            String codes = Bench.section(10, Bench.unsigned(there) + Bench.repeat(there, " 02 00 0B"));
            edge("exported function", there, i -> functions + Bench.section(7, "01 01 61 00 " + Bench.unsigned(i)) + codes);
            edge("exported global", there, i -> Bench.HEAD + Bench.section(6, Bench.unsigned(there) + Bench.repeat(there, " 7F 01 41 00 0B"))
                    + Bench.section(7, "01 01 61 03 " + Bench.unsigned(i)));
        }
        edge("exported memory", 1, i -> Bench.HEAD + Bench.section(5, "01 00 00") + Bench.section(7, "01 01 61 02 " + Bench.unsigned(i)));
        edge("exported memory without one", 0, i -> Bench.HEAD + Bench.section(5, "00") + Bench.section(7, "01 01 61 02 " + Bench.unsigned(i)));
        edge("exported memory without section", 0, i -> Bench.HEAD + Bench.section(7, "01 01 61 02 " + Bench.unsigned(i)));
    }

    /** A label may be of each open block, and of the function itself behind them. */
    private static void labels() {
        for (int open : new int[] {0, 1, 2, 50, 100}) {
            String before = Bench.repeat(open, "02 40");
            String behind = Bench.repeat(open, "0B") + "0B";
            edge("br", open + 1, i -> Bench.one("00 00", "00", before + "0C " + Bench.unsigned(i) + " " + behind));
            edge("br_if", open + 1, i -> Bench.one("00 00", "00", before + "41 00 0D " + Bench.unsigned(i) + " " + behind));
            edge("br_table's last", open + 1, i -> Bench.one("00 00", "00", before + "41 00 0E 01 00 " + Bench.unsigned(i) + " " + behind));
            edge("br_table's first", open + 1, i -> Bench.one("00 00", "00", before + "41 00 0E 02 " + Bench.unsigned(i) + " 00 00 " + behind));
            edge("br_table's second", open + 1, i -> Bench.one("00 00", "00", before + "41 00 0E 02 00 " + Bench.unsigned(i) + " 00 " + behind));
        }
    }

    private static void alignments() {
        String[] accesses = {"28", "29", "2C", "2D", "36", "37", "3A"};
        int[] most = {2, 3, 0, 0, 2, 3, 0};
        for (int a = 0; a < accesses.length; a++) {
            String access = accesses[a];
            String value = access.equals("37") ? "42 00 " : access.startsWith("3") ? "41 00 " : "";
            String behind = access.startsWith("2") ? " 00 1A 0B" : " 00 0B";
            edge("alignment of " + access, most[a] + 1, i -> Bench.one("00 00", "00", "41 00 " + value + access + " " + Bench.unsigned(i) + behind));
            for (int i = 0; i <= most[a]; i++) {
                Bench.judged("alignment " + i, Bench.one("00 00", "00", "41 00 " + value + access + String.format(" %02X", i) + behind), 0);
            }
        }
    }

    /** "at most 2 pages at first, most at most 65536, and not less than that". */
    private static void pages() {
        for (long least : new long[] {0, 1, 2, 3, 4, 65535, 65536, 65537, 0xFFFFFFFFL}) {
            Bench.judged("least " + least, Bench.HEAD + Bench.section(5, "01 00 " + Bench.unsigned(least)), least <= 2 ? 0 : 8);
            for (long most : new long[] {0, 1, 2, 3, 65535, 65536, 65537, 0x7FFFFFFFL, 0x80000000L, 0xFFFFFFFFL}) {
                boolean fits = least <= 2 && most <= 65536 && most >= least;
                Bench.judged("least " + least + ", most " + most, Bench.HEAD + Bench.section(5, "01 01 " + Bench.unsigned(least) + " "
                        + Bench.unsigned(most)), fits ? 0 : 8);
                if (fits) {
                    Bench.due("pages", Bench.loaded(Bench.HEAD + Bench.section(5, "01 01 " + Bench.unsigned(least) + " " + Bench.unsigned(most))).count(6), least);
                }
            }
        }
    }

    /** "exports of different names", of whatever they are. */
    private static void namesOfExports() {
        String tables = Bench.HEAD + EMPTY_TYPE + Bench.section(3, "02 00 00") + Bench.section(5, "01 00 00") + Bench.section(6, "01 7F 00 41 00 0B");
        String codes = Bench.section(10, "02 02 00 0B 02 00 0B");
        String[] kinds = {"00 00", "00 01", "02 00", "03 00"};
        String[] names = {"00", "01 61", "01 62", "02 61 61", "02 61 62", "02 62 61", "1E" + Bench.repeat(30, " 61"), "1E" + Bench.repeat(29, " 61") + " 62"};
        for (String kind : kinds) {
            for (String other : kinds) {
                for (String name : names) {
                    for (String second : names) {
                        Bench.judged(name + " and " + second, tables + Bench.section(7, "02 " + name + " " + kind + " " + second + " " + other) + codes,
                                name.equals(second) ? 8 : 0);
                    }
                }
            }
        }
        StringBuilder exports = new StringBuilder();
        for (int i = 0; i < 39; i++) {
            exports.append(String.format("01 %02X 02 00 ", i + 65));
        }
        Bench.judged("the 40th as the first", tables + Bench.section(7, "28 " + exports + "01 41 02 00") + codes, 8);
        Bench.judged("the 40th as the 39th", tables + Bench.section(7, "28 " + exports + "01 67 02 00") + codes, 8);
        Bench.judged("the 40th as none", tables + Bench.section(7, "28 " + exports + "01 68 02 00") + codes, 0);
    }

    private static void typesOfGlobals() {
        for (int wrong = -1; wrong < 20; wrong++) {
            StringBuilder globals = new StringBuilder("14 ");
            for (int i = 0; i < 20; i++) {
                boolean isInt = i % 2 == 0;
                globals.append(isInt ? "7F 00 " : "7E 01 ").append(isInt == (i != wrong) ? "41 00 0B " : "42 00 0B ");
            }
            Bench.judged("wrong " + wrong, Bench.HEAD + Bench.section(6, globals.toString()), wrong < 0 ? 0 : 8);
        }
    }

    private static void withoutMemory() {
        String[] uses = {"41 00 28 00 00 1A", "41 00 29 00 00 1A", "41 00 2C 00 00 1A", "41 00 2D 00 00 1A", "41 00 41 00 36 00 00",
            "41 00 42 00 37 00 00", "41 00 41 00 3A 00 00", "3F 00 1A", "41 00 40 00 1A"};
        for (String use : uses) {
            String head = Bench.HEAD + EMPTY_TYPE + Bench.section(3, "01 00");
            String code = Bench.section(10, "01 " + Bench.sized("00 " + use + " 0B"));
            Bench.judged("without " + use, head + code, 8);
            Bench.judged("none of " + use, head + Bench.section(5, "00") + code, 8);
            Bench.judged("of no page " + use, head + Bench.section(5, "01 00 00") + code, 0);
            Bench.judged("where nothing gets " + use, head + Bench.section(10, "01 " + Bench.sized("00 00 " + use + " 0B")), 8);
        }
    }

    private static void body(String type, String body, int reason) {
        Bench.judged("body " + body + " of " + type, Bench.one(type, "00", body + " 0B"), reason);
    }

    /** A block can't take what lies below it, nor leave more than it gives. */
    private static void heights() {
        for (String block : new String[] {"02", "03"}) {
            body("00 01 7F", "41 00 " + block + " 40 1A 0B", 8);
            body("00 01 7F", "41 00 " + block + " 40 0B", 0);
            body("00 01 7F", "41 00 " + block + " 7F 0B 1A", 8);
            body("00 01 7F", "41 00 " + block + " 7F 41 00 0B 6A", 0);
            body("00 01 7F", block + " 7F 41 00 41 00 0B", 8);
            body("00 00", block + " 40 41 00 0B", 8);
            body("00 01 7E", block + " 7F 41 00 0B", 8);
            body("00 01 7E", block + " 7E 42 00 0B", 0);
        }
        body("00 01 7F", "41 00 41 01 04 40 1A 05 0B", 8);
        body("00 01 7F", "41 00 41 01 04 40 05 1A 0B", 8);
        body("00 01 7F", "41 00 41 01 04 40 05 0B", 0);
        body("00 01 7F", "41 01 04 7F 41 02 05 41 03 0B", 0);
        body("00 01 7F", "41 01 04 7F 41 02 41 02 05 41 03 0B", 8);
        body("00 01 7F", "41 01 04 7F 41 02 05 41 03 41 03 0B", 8);
        body("00 01 7E", "41 01 04 7E 42 02 0B", 8);
        body("00 01 7E", "41 01 04 7E 00 0B", 8);
        body("00 00", "41 00 41 00 1A", 8);
        body("00 00", "41 00 1A 1A", 8);
        // READ takes what has no operands at all, as the very first instruction, too
        for (String first : new String[] {"04 40 0B", "04 40 05 0B", "04 7F 41 00 05 41 00 0B", "0D 00", "0E 00 00", "1A", "1B", "21 00", "24 00",
            "28 00 00", "36 00 00", "40 00", "45", "6A", "A7"}) {
            body("00 00", first, 8);
        }
    }

    private static void results() {
        String[] types = {"00 00", "00 01 7F", "00 01 7E"};
        String[] values = {"", "41 00 ", "42 00 "};
        for (int t = 0; t < 3; t++) {
            for (int v = 0; v < 3; v++) {
                body(types[t], values[v], t == v ? 0 : 8);
                body(types[t], values[v] + "0F", t == v || t == 0 ? 0 : 8);
                body(types[t], values[v] + "0C 00", t == v || t == 0 ? 0 : 8);
                body(types[t], values[v] + "41 01 0D 00" + (t == 0 && v != 0 ? " 1A" : ""), t == v || t == 0 ? 0 : 8);
                body(types[t], values[v] + "41 01 0E 00 00", t == v || t == 0 ? 0 : 8);
                body(types[t], "02 40 " + values[v] + "0F 0B " + values[t], t == v || t == 0 ? 0 : 8);
                body(types[t], "02 40 " + values[v] + "0C 01 0B " + values[t], t == v || t == 0 ? 0 : 8);
            }
        }
        // a label of a loop asks for nothing, of a block for what it gives
        body("00 01 7F", "03 7F 0C 00 0B", 0);
        body("00 01 7F", "03 7F 41 01 0D 00 41 02 0B", 0);
        body("00 01 7F", "02 7F 0C 00 0B", 8);
        body("00 01 7F", "02 7F 03 40 41 05 0C 01 0B 41 06 0B", 0);
        // all labels of a br_table are of one type
        body("00 01 7F", "02 7F 03 40 41 05 41 00 0E 01 01 00 0B 41 06 0B", 8);
        body("00 01 7F", "02 7F 03 40 41 05 41 00 0E 01 01 01 0B 41 06 0B", 0);
        body("00 00", "02 40 03 40 41 00 0E 01 01 00 0B 0B", 0);
    }

    /** "with types of what can't be reached": nothing is asked of what is missing, but what is there must fit. */
    private static void whatCannotBeReached() {
        for (String end : new String[] {"00", "0C 00", "0F", "41 00 0E 00 00", "03 40 0C 00 0B 00"}) {
            body("00 00", end, 0);
            body("00 00", end + " 1A", 0);
            body("00 00", end + " 1A 1A 1A", 0);
            body("00 00", end + " 6A 1A", 0);
            body("00 00", end + " 6A", 8);
            body("00 00", end + " 41 00", 8);
            body("00 00", end + " 42 00 6A 1A", 8);
            body("00 00", end + " 42 00 41 00 6A 1A", 8);
            body("00 00", end + " 42 00 7C 1A", 0);
            body("00 00", end + " 1B 1A", 0);
            body("00 00", end + " 42 00 1B 1A", 8);
            body("00 00", end + " 42 00 41 00 1B 7C 1A", 0);
            body("00 00", end + " 42 00 41 00 1B 6A 1A", 8);
            body("00 00", end + " 41 00 42 00 41 00 1B 1A", 8);
            body("00 00", end + " 04 40 0B", 0);
            body("00 00", end + " 42 00 04 40 0B", 8);
            body("00 00", end + " 02 40 1A 0B", 8);
            body("00 00", end + " 02 40 00 1A 0B", 0);
            body("00 00", end + " 02 7F 41 00 0B 1A", 0);
            body("00 00", end + " 02 7F 0B 1A", 8);
            body("00 00", end + " 0D 00", 0);
            body("00 00", end + " 0C 01", 8);
            body("00 00", end + " 20 00", 8);
            body("00 00", end + " 10 00", 0);
            body("00 00", end + " 10 01", 8);
            body("00 00", end + " 28 03 00 1A", 8);
        }
        body("00 01 7F", "00", 0);
        body("00 01 7F", "00 42 00", 8);
        body("00 01 7F", "00 41 00", 0);
        body("00 01 7F", "00 41 00 41 00", 8);
        body("00 01 7F", "00 1B", 0);
        body("00 01 7E", "00 1B", 0);
        // what lies below the end of a block can be reached again
        body("00 01 7F", "02 40 00 0B", 8);
        body("00 01 7F", "41 00 04 40 00 05 00 0B", 8);
        body("00 01 7F", "41 00 04 7F 00 05 00 0B", 0);
        body("00 01 7F", "02 7F 00 0B 42 00 7C", 8);
        // br_if gives the label's type, whatever was missing
        body("00 01 7E", "02 7F 00 41 00 0D 00 7B 0B 1A 42 00", 8);
        body("00 01 7E", "02 7F 00 41 00 0D 00 69 0B 1A 42 00", 0);
    }
}
