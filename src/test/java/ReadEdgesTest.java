import java.util.Arrays;
import java.util.function.IntFunction;

/** Promise 5, READ: each number in each of its forms, each byte that is asked, each count at its most and at one more. */
public final class ReadEdgesTest {
    private static final String EMPTY_TYPE = Bench.section(1, "01 60 00 00");
    private static final String ONE_FUNCTION = Bench.section(3, "01 00");
    private static final String EMPTY_CODE = Bench.section(10, "01 02 00 0B");

    public static void main(String[] args) {
        numbersInAllForms();
        numbersTooGreat();
        constantsInAllForms();
        everySectionByte();
        everyByteOfTables();
        everyByteOfCodes();
        orderOfSections();
        justTheirSize();
        counts();
        runs();
        openBlocks();
        elses();
        labels();
        endOfAll();
        otherSections();
        readBeforeValid();
        Bench.finish();
    }

    private enum Kind { COUNT, INDEX, OFFSET, PAGES }

    /** A module with a number of each kind; the one that is told is written otherwise. */
    private static final class Parts {
        final int changed;
        final String other;
        int numbers;
        Kind kind;
        long value;

        Parts(int changed, String other) {
            this.changed = changed;
            this.other = other;
        }

        private String number(Kind which, long number) {
            boolean hit = numbers++ == changed;
            if (hit) {
                kind = which;
                value = number;
            }
            return (hit ? other : Bench.unsigned(number)) + " ";
        }

        private String count(long number) {
            return number(Kind.COUNT, number);
        }

        private String index(long number) {
            return number(Kind.INDEX, number);
        }

        private String sized(String content) {
            return count(Bench.unhex(content).length) + content + " ";
        }

        private String access(String op, String given, String behind) {
            return "41 00 " + given + op + " " + index(0) + number(Kind.OFFSET, 3) + behind;
        }

        private String body() {
            return count(2) + count(2) + "7F " + count(1) + "7E "
                    + "02 40 0C " + index(0) + "0B 02 40 41 00 0D " + index(0) + "0B 02 40 41 00 0E " + count(2) + index(0)
                    + index(1) + index(0) + "0B 10 " + index(0) + "20 " + index(0) + "21 " + index(1) + "20 " + index(1) + "22 "
                    + index(0) + "1A 23 " + index(0) + "24 " + index(0)
                    + access("28", "", "1A ") + access("29", "", "1A ") + access("2C", "", "1A ") + access("2D", "", "1A ")
                    + access("36", "41 00 ", "") + access("37", "42 00 ", "") + access("3A", "41 00 ", "") + "0B";
        }

        String module() {
            return Bench.HEAD + " 01 " + sized(count(1) + "60 " + count(0) + count(0)) + "03 " + sized(count(1) + index(0))
                    + "05 " + sized(count(1) + "01 " + number(Kind.PAGES, 1) + number(Kind.PAGES, 2))
                    + "06 " + sized(count(1) + "7F 01 41 00 0B") + "07 " + sized(count(3) + count(1) + "66 00 " + index(0)
                            + count(1) + "6D 02 " + index(0) + count(0) + "03 " + index(0))
                    + "00 " + sized(count(1) + "41 42") + "0A " + sized(count(1) + sized(body()));
        }
    }

    /** So many bytes, the number's last bits in the last one. */
    private static String padded(long value, int bytes) {
        StringBuilder text = new StringBuilder();
        for (int i = 0; i < bytes; i++) {
            text.append(String.format("%02X ", value >> 7 * i & 0x7F | (i + 1 < bytes ? 0x80 : 0)));
        }
        return text.toString();
    }

    private static int numbersOf() {
        Parts parts = new Parts(-1, "");
        Bench.judged("the parts", parts.module(), 0);
        return parts.numbers;
    }

    /** "each: 5 bytes, ... the last one without other bits". */
    private static void numbersInAllForms() {
        int numbers = numbersOf();
        Bench.due("numbers", numbers, 56);
        for (int n = 0; n < numbers; n++) {
            Parts first = new Parts(n, "00");
            first.module();
            for (int bytes = 2; bytes <= 5; bytes++) {
                Bench.judged("number " + n + " in " + bytes, new Parts(n, padded(first.value, bytes)).module(), 0);
            }
            Bench.judged("number " + n + " in 6", new Parts(n, padded(first.value, 6)).module(), 7);
            Bench.judged("number " + n + " in 7", new Parts(n, padded(first.value, 7)).module(), 7);
            for (int bit = 4; bit < 7; bit++) {
                Bench.judged("number " + n + " with bit " + bit, new Parts(n, padded(first.value | 1L << 28 + bit, 5)).module(), 7);
            }
        }
    }

    /** "numbers up to 2^32 - 1", "indices at most 2^31 - 1 (alignment, too)". */
    private static void numbersTooGreat() {
        int numbers = numbersOf();
        for (int n = 0; n < numbers; n++) {
            Parts first = new Parts(n, "00");
            first.module();
            for (long value : new long[] {0x7FFFFFFEL, 0x7FFFFFFFL, 0x80000000L, 0x80000001L, 0xFFFFFFFEL, 0xFFFFFFFFL}) {
                int reason = switch (first.kind) {
                    case COUNT -> 7;
                    case INDEX -> value <= Integer.MAX_VALUE ? 8 : 7;
                    case OFFSET -> 0;
                    case PAGES -> 8;
                };
                Bench.judged(first.kind + " " + n + " of " + value, new Parts(n, padded(value, 5)).module(), reason);
            }
            Bench.judged(first.kind + " " + n + " of 2^32", new Parts(n, padded(1L << 32, 5)).module(), 7);
            Bench.judged(first.kind + " " + n + " of 2^35 - 1", new Parts(n, padded((1L << 35) - 1, 5)).module(), 7);
        }
    }

    private static void constant(String type, String hex, int reason, long value) {
        String op = type.equals("7F") ? "41 " : "42 ";
        String code = Bench.one("00 01 " + type, "00", op + hex + "0B");
        String global = Bench.HEAD + Bench.section(6, "01 " + type + " 00 " + op + hex + "0B");
        Bench.judged("code " + hex, code, reason);
        Bench.judged("global " + hex, global, reason);
        if (reason == 0) {
            Bench.due("value of " + hex, Bench.loaded(code).call(0), value);
            Bench.due("global of " + hex, Bench.loaded(global).global(0), value);
        }
    }

    /** A number with sign in 5 bytes at most, of i64 in 10: in the last one all bits above the number are its sign. */
    private static void constantsInAllForms() {
        for (int last = 0; last < 128; last++) {
            int above = last >> 3;
            boolean fits = above == 0 || above == 15;
            long value = (long) (last & 0x7F) << 28 | 0x0FFFFFFFL;
            constant("7F", String.format("FF FF FF FF %02X ", last), fits ? 0 : 7, (int) value);
            constant("7F", String.format("80 80 80 80 %02X ", last), fits ? 0 : 7, (int) ((long) last << 28));
            boolean fitsLong = last == 0 || last == 127;
            constant("7E", Bench.repeat(9, "FF") + String.format("%02X ", last), fitsLong ? 0 : 7,
                    (last == 0 ? 0 : Long.MIN_VALUE) | Long.MAX_VALUE);
            constant("7E", Bench.repeat(9, "80") + String.format("%02X ", last), fitsLong ? 0 : 7, last == 0 ? 0 : Long.MIN_VALUE);
        }
        for (int bytes = 1; bytes <= 11; bytes++) {
            for (long value : new long[] {0, 1, 63, -1, -64}) {
                constant("7F", padded(value, bytes), bytes <= 5 ? 0 : 7, value);
                constant("7E", padded(value, bytes), bytes <= 10 ? 0 : 7, value);
            }
        }
        for (int bytes = 1; bytes <= 9; bytes++) {
            long least = -(1L << 7 * bytes - 1);
            for (long value : new long[] {least, ~least}) {
                constant("7E", padded(value, bytes), 0, value);
                constant("7E", padded(value, bytes + 1), 0, value);
                if (bytes <= 4) {
                    constant("7F", padded(value, bytes), 0, value);
                    constant("7F", padded(value, bytes + 1), 0, value);
                }
            }
        }
    }

    private static boolean isSection(int id) {
        return id == 0 || id == 1 || id == 3 || id == 5 || id == 6 || id == 7 || id == 10;
    }

    private static void everySectionByte() {
        for (int id = 0; id < 256; id++) {
            Bench.judged("section " + id, Bench.HEAD + Bench.section(id, "00"), isSection(id) ? 0 : 7);
            Bench.judged("section " + id + " behind all", Bench.HEAD + Bench.section(10, "00") + Bench.section(id, "00"), id == 0 ? 0 : 7);
            Bench.judged("section " + id + " of nothing", Bench.HEAD + Bench.section(id, ""), 7);
            Bench.judged("a byte " + id + " behind all", Bench.HEAD + String.format("%02X", id), 7);
            Bench.judged("a byte " + id + " behind a code", Bench.HEAD + EMPTY_TYPE + ONE_FUNCTION + EMPTY_CODE + String.format("%02X", id), 7);
        }
    }

    private static void everyByteOfTables() {
        String code = EMPTY_TYPE + ONE_FUNCTION;
        for (int b = 0; b < 256; b++) {
            String hex = String.format("%02X ", b);
            boolean type = b == 0x7F || b == 0x7E;
            Bench.judged("60 as " + hex, Bench.HEAD + Bench.section(1, "01 " + hex + "00 00"), b == 0x60 ? 0 : 7);
            Bench.judged("parameter of " + hex, Bench.HEAD + Bench.section(1, "01 60 02 7F " + hex + "00"), type ? 0 : 7);
            Bench.judged("result of " + hex, Bench.HEAD + Bench.section(1, "01 60 00 01 " + hex), type ? 0 : 7);
            Bench.judged("global of " + hex, Bench.HEAD + Bench.section(6, "01 " + hex + "00 41 00 0B"), b == 0x7F ? 0 : b == 0x7E ? 8 : 7);
            Bench.judged("change of " + hex, Bench.HEAD + Bench.section(6, "01 7F " + hex + "41 00 0B"), b <= 1 ? 0 : 7);
            Bench.judged("const of " + hex, Bench.HEAD + Bench.section(6, "01 7F 00 " + hex + "00 0B"), b == 0x41 ? 0 : b == 0x42 ? 8 : 7);
            Bench.judged("end of " + hex, Bench.HEAD + Bench.section(6, "01 7F 00 41 00 " + hex), b == 0x0B ? 0 : 7);
            Bench.judged("flag of " + hex, Bench.HEAD + Bench.section(5, "01 " + hex + "01"), b == 0 ? 0 : 7);
            Bench.judged("flag with most of " + hex, Bench.HEAD + Bench.section(5, "01 " + hex + "01 02"), b == 1 ? 0 : 7);
            Bench.judged("export of " + hex, Bench.HEAD + code + Bench.section(5, "01 00 01") + Bench.section(6, "01 7F 00 41 00 0B")
                    + Bench.section(7, "01 01 61 " + hex + "00") + EMPTY_CODE, b == 0 || b == 2 || b == 3 ? 0 : 7);
            String named = Bench.HEAD + code + Bench.section(7, "01 03 61 " + hex + "62 00 00") + EMPTY_CODE;
            Bench.judged("name with " + hex, named, 0);
            WaferForge forge = Bench.loaded(named);
            Bench.tape(forge, new byte[] {0x61, (byte) b, 0x62});
            Bench.due("find with " + hex, forge.find(), 0);
        }
    }

    private static void everyByteOfCodes() {
        for (int b = 0; b < 256; b++) {
            String hex = String.format("%02X ", b);
            boolean type = b == 0x7F || b == 0x7E;
            Bench.judged("local of " + hex, Bench.one("00 00", "01 01 " + hex, "0B"), type ? 0 : 7);
            boolean block = type || b == 0x40;
            Bench.judged("block of " + hex, Bench.one("00 00", "00", "02 " + hex + "00 0B 00 0B"), block ? 0 : 7);
            Bench.judged("loop of " + hex, Bench.one("00 00", "00", "03 " + hex + "00 0B 00 0B"), block ? 0 : 7);
            Bench.judged("if of " + hex, Bench.one("00 00", "00", "41 00 04 " + hex + "00 05 00 0B 00 0B"), block ? 0 : 7);
            Bench.judged("memory.size with " + hex, Bench.one("00 00", "00", "3F " + hex + "1A 0B"), b == 0 ? 0 : 7);
            Bench.judged("memory.grow with " + hex, Bench.one("00 00", "00", "41 00 40 " + hex + "1A 0B"), b == 0 ? 0 : 7);
        }
    }

    /** "in rising order (0 anywhere)". */
    private static void orderOfSections() {
        int[] ids = {1, 3, 5, 6, 7, 10};
        for (int one : ids) {
            for (int other : ids) {
                String two = Bench.section(one, "00") + Bench.section(other, "00");
                Bench.judged(one + " and " + other, Bench.HEAD + two, one < other ? 0 : 7);
                Bench.judged(one + ", 0 and " + other, Bench.HEAD + Bench.section(one, "00") + Bench.section(0, "00")
                        + Bench.section(other, "00"), one < other ? 0 : 7);
            }
        }
        StringBuilder all = new StringBuilder(Bench.HEAD + Bench.section(0, "00"));
        for (int id : ids) {
            all.append(Bench.section(id, "00")).append(Bench.section(0, "01 FF")).append(Bench.section(0, "00 01 02"));
        }
        Bench.judged("0 anywhere", all.toString(), 0);
    }

    /** "each just its size". */
    private static void justTheirSize() {
        String[] contents = {"01 60 01 7F 01 7E", "01 00", "01 01 01 02", "01 7E 01 42 C0 00 0B", "01 01 66 00 00", "01 09 01 01 7F 20 00 1A 42 05 0B"};
        int[] ids = {1, 3, 5, 6, 7, 10};
        for (int changed = 0; changed < ids.length; changed++) {
            for (int more = -1; more <= 1; more++) {
                StringBuilder module = new StringBuilder(Bench.HEAD + " ");
                for (int i = 0; i < ids.length; i++) {
                    int size = Bench.unhex(contents[i]).length + (i == changed ? more : 0);
                    module.append(String.format("%02X %02X %s ", ids[i], size, contents[i]));
                }
                Bench.judged("size of " + ids[changed] + " and " + more, module.toString(), more == 0 ? 0 : 7);
            }
        }
        for (int size = 0; size <= 5; size++) {
            Bench.judged("a code's size " + size, Bench.HEAD + EMPTY_TYPE + Bench.section(3, "02 00 00")
                    + Bench.section(10, String.format("02 %02X 00 01 0B 02 00 0B", size)), size == 3 ? 0 : 7);
        }
    }

    private static void atMost(String what, int most, IntFunction<String> module) {
        Bench.judged(most + " " + what, module.apply(most), 0);
        Bench.judged(most + 1 + " " + what, module.apply(most + 1), 7);
        Bench.judged("0 " + what, module.apply(0), 0);
    }

    private static String named(int i) {
        return String.format("02 %02X %02X", 65 + i / 10, 48 + i % 10);
    }

    private static void counts() {
        atMost("types", 20, n -> Bench.HEAD + Bench.section(1, Bench.unsigned(n) + Bench.repeat(n, " 60 01 7F 01 7E")));
        atMost("parameters", 8, n -> Bench.HEAD + Bench.section(1, "01 60 " + Bench.unsigned(n) + Bench.repeat(n, " 7E") + " 00"));
        atMost("results", 1, n -> Bench.HEAD + Bench.section(1, "01 60 00 " + Bench.unsigned(n) + Bench.repeat(n, " 7F")));
        atMost("functions", 30, n -> Bench.HEAD + EMPTY_TYPE + Bench.section(3, Bench.unsigned(n) + Bench.repeat(n, " 00"))
                + Bench.section(10, Bench.unsigned(n) + Bench.repeat(n, " 02 00 0B")));
        atMost("memories", 1, n -> Bench.HEAD + Bench.section(5, Bench.unsigned(n) + Bench.repeat(n, " 00 01")));
        atMost("globals", 20, n -> Bench.HEAD + Bench.section(6, Bench.unsigned(n) + Bench.repeat(n, " 7F 01 41 00 0B")));
        atMost("exports", 40, n -> {
            StringBuilder exports = new StringBuilder(Bench.unsigned(n) + " ");
            for (int i = 0; i < n; i++) {
                exports.append(named(i)).append(" 02 00 ");
            }
            return Bench.HEAD + Bench.section(5, "01 00 01") + Bench.section(7, exports.toString());
        });
        atMost("bytes of a name", 30, n -> Bench.HEAD + Bench.section(5, "01 00 01")
                + Bench.section(7, "01 " + Bench.unsigned(n) + " " + Bench.repeat(n, "00") + "02 00"));
        for (int functions = 0; functions <= 3; functions++) {
            for (int codes = 0; codes <= 3; codes++) {
                String module = Bench.HEAD + EMPTY_TYPE + Bench.section(3, Bench.unsigned(functions) + Bench.repeat(functions, " 00"));
                Bench.judged(functions + " functions and " + codes + " codes", module + Bench.section(10, Bench.unsigned(codes)
                        + Bench.repeat(codes, " 02 00 0B")), functions == codes ? 0 : 7);
                Bench.judged(functions + " functions, no section", module, functions == 0 ? 0 : 7);
            }
            Bench.judged("no section, " + functions + " codes", Bench.HEAD + EMPTY_TYPE + Bench.section(10, Bench.unsigned(functions)
                    + Bench.repeat(functions, " 02 00 0B")), functions == 0 ? 0 : 7);
        }
        WaferForge forge = Bench.loaded(Bench.HEAD + EMPTY_TYPE + Bench.section(3, "1E" + Bench.repeat(30, " 00"))
                + Bench.section(10, "1E" + Bench.repeat(30, " 02 00 0B")));
        Bench.due("30 functions", forge.count(4), 30);
        Bench.due("the last of them", forge.call(29), 0);
    }

    /** "in a code at most 60 runs, 60 in each and in all". */
    private static void runs() {
        int[][] taken = {{}, {0}, {60}, {59, 1}, {60, 0}, {0, 60}, {30, 30}, {1, 58, 1}, {0, 0, 0}};
        int[][] refused = {{61}, {59, 2}, {60, 1}, {1, 60}, {30, 31}, {31, 30}, {20, 20, 21}, {128}, {256}};
        for (int[][] all : new int[][][] {taken, refused}) {
            for (int[] sizes : all) {
                StringBuilder locals = new StringBuilder(Bench.unsigned(sizes.length) + " ");
                for (int size : sizes) {
                    locals.append(Bench.unsigned(size)).append(" 7E ");
                }
                Bench.judged("runs " + Arrays.toString(sizes), Bench.one("00 00", locals.toString(), "0B"), all == taken ? 0 : 7);
            }
        }
        for (int size = 0; size <= 1; size++) {
            String run = String.format(" %02X 7F", size);
            Bench.judged("60 runs", Bench.one("00 00", "3C" + Bench.repeat(60, run), "0B"), 0);
            Bench.judged("61 runs", Bench.one("00 00", "3D" + Bench.repeat(61, run), "0B"), 7);
        }
        // each code has 60 of its own
        Bench.judged("60 and 60", Bench.HEAD + EMPTY_TYPE + Bench.section(3, "02 00 00")
                + Bench.section(10, "02 04 01 3C 7F 0B 04 01 3C 7E 0B"), 0);
        Bench.judged("60 in each of 30", Bench.HEAD + EMPTY_TYPE + Bench.section(3, "1E" + Bench.repeat(30, " 00"))
                + Bench.section(10, "1E" + Bench.repeat(30, " 04 01 3C 7F 0B")), 0);
    }

    /** "at most 100 blocks open". */
    private static void openBlocks() {
        String[] kinds = {"02 40 ", "03 40 ", "41 00 04 40 ", "41 00 04 40 05 "};
        for (int n = 99; n <= 102; n++) {
            StringBuilder mixed = new StringBuilder();
            for (int i = 0; i < n; i++) {
                mixed.append(kinds[i % kinds.length]);
            }
            int reason = n <= 100 ? 0 : 7;
            Bench.judged(n + " mixed", Bench.one("00 00", "00", mixed + Bench.repeat(n, "0B") + "0B"), reason);
            for (String kind : kinds) {
                Bench.judged(n + " of " + kind, Bench.one("00 00", "00", Bench.repeat(n, kind) + Bench.repeat(n, "0B") + "0B"), reason);
            }
        }
        String most = Bench.repeat(100, "02 40") + Bench.repeat(100, "0B");
        Bench.judged("100 and 100 again", Bench.one("00 00", "00", most + most + "0B"), 0);
        Bench.judged("100, of which one ends, and one", Bench.one("00 00", "00", Bench.repeat(100, "02 40") + "0B 02 40" + Bench.repeat(100, "0B") + "0B"), 0);
        Bench.judged("100, of which one ends, and two", Bench.one("00 00", "00", Bench.repeat(100, "02 40") + "0B 02 40 02 40" + Bench.repeat(101, "0B") + "0B"), 7);
        Bench.judged("100 in each of two codes", Bench.HEAD + EMPTY_TYPE + Bench.section(3, "02 00 00")
                + Bench.section(10, "02 " + Bench.sized("00 " + most + "0B") + " " + Bench.sized("00 " + most + "0B")), 0);
    }

    /** "else just in an if, once". */
    private static void elses() {
        String[] taken = {"41 00 04 40 05 0B", "41 00 04 40 02 40 0B 05 03 40 0B 0B", "41 00 04 40 41 00 04 40 05 0B 05 0B",
            "41 00 04 40 05 41 00 04 40 05 0B 0B", "02 40 41 00 04 40 05 0B 0B"};
        String[] refused = {"05", "02 40 05 0B", "03 40 05 0B", "41 00 04 40 05 05 0B", "41 00 04 40 0B 05", "41 00 04 40 02 40 05 0B 0B",
            "41 00 04 40 05 02 40 05 0B 0B", "41 00 04 40 05 41 00 04 40 05 0B 05 0B", "41 00 04 40 05 0B 05"};
        for (String code : taken) {
            Bench.judged(code, Bench.one("00 00", "00", code + " 0B"), 0);
        }
        for (String code : refused) {
            Bench.judged(code, Bench.one("00 00", "00", code + " 0B"), 7);
        }
    }

    /** "at most 50 labels of 0E besides the last". */
    private static void labels() {
        for (int n = 0; n <= 55; n++) {
            Bench.judged(n + " labels", Bench.one("00 00", "00", "41 00 0E " + Bench.unsigned(n) + " " + Bench.repeat(n + 1, "00") + "0B"),
                    n <= 50 ? 0 : 7);
        }
        Bench.judged("the last one is missing", Bench.one("00 00", "00", "41 00 0E 01 00 0B"), 7);
        Bench.judged("many tables", Bench.one("00 00", "00", Bench.repeat(30, "41 00 0E 32" + Bench.repeat(51, " 00")) + "0B"), 0);
        WaferForge forge = Bench.loaded(Bench.one("01 7F 01 7F", "00", "02 40 02 40 20 00 0E 32 " + Bench.repeat(49, "00") + "01 00 0B 41 05 0F 0B 41 06 0B"));
        Bench.due("the 49th", Bench.called(forge, 0, 48), 5);
        Bench.due("the 50th", Bench.called(forge, 0, 49), 6);
        Bench.due("the last", Bench.called(forge, 0, 50), 5);
        Bench.due("behind", Bench.called(forge, 0, 51), 5);
    }

    /** "end of all is the end of the code". */
    private static void endOfAll() {
        for (String body : new String[] {"", "01", "02 40 0B", "0B 0B", "0B 01", "02 40", "0B 00 0B", "41 00 04 40 05 0B", "03 40 0B 0B 0B"}) {
            Bench.judged("code " + body, Bench.HEAD + EMPTY_TYPE + ONE_FUNCTION + Bench.section(10, "01 " + Bench.sized("00 " + body)), 7);
        }
        Bench.judged("code without anything", Bench.HEAD + EMPTY_TYPE + ONE_FUNCTION + Bench.section(10, "01 00"), 7);
    }

    /** "sections 0 (a NAME'S length, and then what there is)". */
    private static void otherSections() {
        String[] taken = {"00", "00 00", "00 FF FF", "01 41", "01 41 00", "03 FF FE FD", "80 00", "80 80 80 80 00"};
        String[] refused = {"", "80", "FF", "80 80 80 80 80 00", "80 80 80 80 10"};
        for (String content : taken) {
            Bench.judged("section 0 of " + content, Bench.HEAD + Bench.section(0, content), 0);
        }
        for (String content : refused) {
            Bench.judged("section 0 of " + content, Bench.HEAD + Bench.section(0, content), 7);
        }
        Bench.judged("a name of 127 bytes", Bench.HEAD + Bench.section(0, "7F " + Bench.repeat(127, "41")), 0);
    }

    /** What is not READ is 7, though something before it is not VALID. */
    private static void readBeforeValid() {
        String notValid = Bench.HEAD + EMPTY_TYPE + Bench.section(3, "01 05") + Bench.section(5, "01 00 03")
                + Bench.section(6, "01 7F 00 42 00 0B") + Bench.section(7, "02 01 61 00 09 01 61 00 09");
        Bench.judged("not valid", notValid + Bench.section(10, "01 03 00 1A 0B"), 8);
        Bench.judged("and not read", notValid + Bench.section(10, "01 03 00 06 0B"), 7);
        Bench.judged("and not read", notValid + Bench.section(10, "01 03 00 1A 0B") + "00", 7);
        Bench.judged("and not read", notValid, 7);
    }
}
