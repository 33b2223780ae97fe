/** Promise 9, RUN: each thing that ends it, the last run that it lets pass and the first that it ends, and what stays. */
public final class RunEdgesTest {
    private static final String[] ACCESSES = {"28", "29", "2C", "2D", "36", "37", "3A"};
    private static final int[] SIZES = {4, 8, 1, 1, 4, 8, 1};

    public static void main(String[] args) {
        unreachable();
        lastAddress();
        addressesDoNotWrap();
        nothingOfAStoreOutside();
        growing();
        grownPages();
        callsWithinOneAnother();
        callsBehindOneAnother();
        roomOnTheStack();
        mostSteps();
        stepOfEach();
        noSteps();
        loopsGoOn();
        loopsDropValues();
        tablesOfLabels();
        mostBlocksInMostCalls();
        loadsOfEachByte();
        whatWasPutStays();
        beginsAnew();
        Bench.finish();
    }

    private static void unreachable() {
        WaferForge forge = Bench.loaded(Bench.one("01 7F 01 7F", "00", "20 00 04 40 00 0B 41 07 0B"));
        Bench.due("met", Bench.ending(forge, 0, 1), 9);
        Bench.due("steps", forge.count(7), 3);
        Bench.due("not met", Bench.called(forge, 0, 0), 7);
        Bench.due("reason", forge.count(2), 0);
        Bench.due("steps", forge.count(7), 3);
        WaferForge end = Bench.compiled("fn f(a: i32): i32 { if a { return 5; } } fn t() { trap(); } fn n() { }");
        Bench.due("a FUNCTION'S end", Bench.ending(end, 0, 0), 9);
        Bench.due("steps", end.count(7), 3);
        Bench.due("before it", Bench.called(end, 0, 1), 5);
        Bench.due("trap", Bench.ending(end, 1), 9);
        Bench.due("without a type", Bench.ending(end, 2), 0);
    }

    private static WaferForge accessing(String access, int pages, long offset) {
        String value = access.equals("37") ? "42 7F " : access.startsWith("3") ? "41 7F " : "";
        return Bench.loaded(Bench.HEAD + Bench.section(1, "01 60 01 7F 00") + Bench.section(3, "01 00")
                + Bench.section(5, "01 00 0" + pages) + Bench.section(10, "01 " + Bench.sized("00 20 00 " + value + access + " 00 "
                + Bench.unsigned(offset) + (access.startsWith("2") ? " 1A 0B" : " 0B"))));
    }

    /** "12 outside of the memory". */
    private static void lastAddress() {
        for (int a = 0; a < ACCESSES.length; a++) {
            for (int pages = 0; pages <= 2; pages++) {
                long bytes = pages * 65536L;
                for (long offset : new long[] {0, 1, 8, 65535, 65536, 131072}) {
                    WaferForge forge = accessing(ACCESSES[a], pages, offset);
                    long last = bytes - SIZES[a] - offset;
                    for (long address : new long[] {0, last - 1, last, last + 1, last + SIZES[a], bytes, 0x7FFFFFFFL, -1}) {
                        if (address >= -1) {
                            boolean inside = address >= 0 && address <= last;
                            String what = ACCESSES[a] + " at " + address + " and " + offset + " of " + pages;
                            Bench.due(what, Bench.ending(forge, 0, address), inside ? 0 : 12);
                            boolean loads = ACCESSES[a].startsWith("2");
                            Bench.due(what + ": steps", forge.count(7), inside || !loads ? 3 : 2);
                        }
                    }
                }
            }
        }
    }

    /** An address without sign and an offset make a number of more than 32 bits. */
    private static void addressesDoNotWrap() {
        for (String access : ACCESSES) {
            for (long offset : new long[] {1, 4, 8, 65536, 0x7FFFFFFFL, 0x80000000L, 0xFFFFFFF8L, 0xFFFFFFFFL}) {
                WaferForge forge = accessing(access, 2, offset);
                Bench.due(access + " at -" + offset, Bench.ending(forge, 0, -offset), 12);
                Bench.due(access + " at -1", Bench.ending(forge, 0, -1), 12);
                Bench.due(access + " at 1 - " + offset, Bench.ending(forge, 0, 1 - offset), offset == 1 ? 0 : 12);
            }
            WaferForge forge = accessing(access, 1, 0);
            Bench.due("of an i32 the lowest 32 bits", Bench.ending(forge, 0, 1L << 32), 0);
        }
    }

    private static void nothingOfAStoreOutside() {
        String[] stores = {"36", "37"};
        for (String store : stores) {
            WaferForge forge = accessing(store, 1, 0);
            int size = store.equals("36") ? 4 : 8;
            for (int over = 1; over < size; over++) {
                Bench.due("partly outside", Bench.ending(forge, 0, 65536 - size + over), 12);
                for (int i = 65528; i < 65536; i++) {
                    Bench.due("byte " + i, forge.memory(i), 0);
                }
            }
            Bench.due("inside", Bench.ending(forge, 0, 65536 - size), 0);
            Bench.due("last byte", forge.memory(65535), 255);
            Bench.due("first byte", forge.memory(65536 - size), 255);
            Bench.due("the byte before", forge.memory(65535 - size), 0);
        }
    }

    /** "memory.grow: -1 above the most, or above 2 pages". */
    private static void growing() {
        for (int least = 0; least <= 2; least++) {
            for (long most : new long[] {-1, 0, 1, 2, 3, 65536}) {
                if (most >= 0 && most < least) {
                    continue;
                }
                long greatest = most < 0 ? 2 : Math.min(2, most);
                String limits = most < 0 ? "01 00 0" + least : "01 01 0" + least + " " + Bench.unsigned(most);
                for (long more : new long[] {0, 1, 2, 3, 65535, 65536, 0x7FFFFFFFL, 0x80000000L, -3, -2, -1}) {
                    WaferForge forge = Bench.loaded(Bench.HEAD + Bench.section(1, "01 60 01 7F 01 7F") + Bench.section(3, "01 00")
                            + Bench.section(5, limits) + Bench.section(10, "01 " + Bench.sized("00 20 00 40 00 0B")));
                    boolean fits = more >= 0 && least + more <= greatest;
                    String what = least + " to " + most + " by " + more;
                    Bench.due(what, Bench.called(forge, 0, more), fits ? least : -1);
                    Bench.due(what + ": pages", forge.count(6), fits ? least + more : least);
                    Bench.due(what + ": reason", forge.count(2), 0);
                }
            }
        }
    }

    private static void grownPages() {
        WaferForge forge = Bench.compiled("fn g(a: i32): i32 { return grow(a); } fn s(a: i32) { store8(a, 9); } fn z(): i32 { return size(); }"
                + " fn both(): i32 { store8(65535, 1); var before: i32 = grow(1); store8(65536, 2); return before * 10 + size(); }");
        Bench.due("behind the first page", Bench.ending(forge, 1, 65536), 12);
        Bench.throwing("byte 65536", IllegalArgumentException.class, () -> forge.memory(65536));
        Bench.due("grown in a run that uses it", forge.call(3), 12);
        Bench.due("byte 65535", forge.memory(65535), 1);
        Bench.due("byte 65536", forge.memory(65536), 2);
        Bench.due("the last byte is 0", forge.memory(131071), 0);
        Bench.due("behind the second page", Bench.ending(forge, 1, 131072), 12);
        Bench.due("the last byte", Bench.ending(forge, 1, 131071), 0);
        Bench.due("the last byte", forge.memory(131071), 9);
        Bench.due("no more", Bench.called(forge, 0, 1), -1);
        Bench.due("size", forge.call(2), 2);
    }

    /** "13 more than 100 calls within one another (with the first)". */
    private static void callsWithinOneAnother() {
        WaferForge forge = Bench.compiled("global n: i32 = 0; fn d(k: i32) { n = n + 1; if k > 1 { d(k - 1); } }"
                + " fn e(k: i32) { n = n + 1; if k > 1 { o(k - 1); } } fn o(k: i32) { n = n + 1; while k > 1 { e(k - 1); return; } }"
                + " fn x(k: i32): i32 { n = n + 1; if k > 1 { return 1 + (2 + x(k - 1)); } return 0; } fn reset() { n = 0; }");
        for (int f : new int[] {0, 1, 2, 3}) {
            for (int deep = 98; deep <= 103; deep++) {
                forge.call(4);
                Bench.due("function " + f + ", " + deep + " deep", Bench.ending(forge, f, deep), deep <= 100 ? 0 : 13);
                Bench.due("so many began", forge.global(0), Math.min(deep, 100));
            }
        }
        WaferForge endless = Bench.loaded(Bench.one("00 00", "00", "10 00 0B"));
        Bench.due("endless", Bench.ending(endless, 0), 13);
        Bench.due("the 100th call instruction ends it", endless.count(7), 100);
        WaferForge last = Bench.loaded(Bench.one("00 01 7F", "00", "10 00 41 01 6A 0B"));
        Bench.due("values below", Bench.ending(last, 0), 13);
        Bench.due("steps", last.count(7), 100);
    }

    private static void callsBehindOneAnother() {
        WaferForge forge = Bench.compiled("global n: i32 = 0; fn one() { n = n + 1; } fn many(k: i32) { while k { one(); k = k - 1; } }"
                + " fn deep(k: i32) { if k > 1 { deep(k - 1); one(); } } fn twice(k: i32) { deep(k); deep(k); one(); }");
        Bench.due("1000 behind one another", Bench.ending(forge, 1, 1000), 0);
        Bench.due("all of them", forge.global(0), 1000);
        Bench.due("99 and one more in each", Bench.ending(forge, 2, 100), 0);
        Bench.due("99 deep, twice", Bench.ending(forge, 3, 99), 0);
        Bench.due("100 deep within the first", Bench.ending(forge, 3, 100), 13);
    }

    /** n calls within one another with 8 parameters, 60 locals and so many values each, the last with others. */
    private static WaferForge deepStack(int values, int atLast) {
        return Bench.loaded(Bench.HEAD + Bench.section(1, "01 60 08 " + Bench.repeat(8, "7F") + "00") + Bench.section(3, "01 00")
                + Bench.section(10, "01 " + Bench.sized("01 3C 7E 20 00 04 40 " + Bench.repeat(values, "41 00")
                + "20 00 41 01 6B " + Bench.repeat(7, "41 05") + "10 00 " + Bench.repeat(values, "1A") + "05 "
                + Bench.repeat(atLast, "41 00") + Bench.repeat(atLast, "1A") + "0B 0B")));
    }

    /** "or no room for 12096 values, parameters and locals on the stack". */
    private static void roomOnTheStack() {
        // 100 calls: 100 * 68 + 99 * 53 + 49 = 12096
        Bench.due("12096", Bench.ending(deepStack(53, 49), 0, 99, 0, 0, 0, 0, 0, 0, 0), 0);
        WaferForge more = deepStack(53, 50);
        Bench.due("12097", Bench.ending(more, 0, 99, 0, 0, 0, 0, 0, 0, 0), 13);
        Bench.due("the value that finds no room", more.count(7), 99 * (2 + 53 + 3 + 7 + 1) + 2 + 50);
        Bench.due("12029 of them behind", Bench.ending(more, 0, 98, 0, 0, 0, 0, 0, 0, 0), 0);
        // 99 calls hold 99 * 122 = 12078 and 8 of the next one, 10 less than its locals need
        WaferForge locals = deepStack(54, 1);
        Bench.due("no room for locals", Bench.ending(locals, 0, 99, 0, 0, 0, 0, 0, 0, 0), 13);
        Bench.due("the call that finds none", locals.count(7), 99 * (2 + 54 + 3 + 7 + 1));
        Bench.due("99 calls", Bench.ending(locals, 0, 98, 0, 0, 0, 0, 0, 0, 0), 0);
        // the parameters themselves: 98 * 123 + 68 = 12122 are too many in the 99th call
        Bench.due("no room for values", Bench.ending(deepStack(55, 1), 0, 99, 0, 0, 0, 0, 0, 0, 0), 13);
        // where locals just fill it: 97 * 121 + 61 + 238 + 60 = 12096
        for (int values = 238; values <= 239; values++) {
            WaferForge forge = Bench.loaded(Bench.HEAD + Bench.section(1, "02 60 01 7F 00 60 00 00") + Bench.section(3, "02 00 01")
                    + Bench.section(10, "02 " + Bench.sized("01 3C 7E 20 00 04 40 " + Bench.repeat(60, "41 00") + "20 00 41 01 6B 10 00 "
                    + Bench.repeat(60, "1A") + "05 " + Bench.repeat(values, "41 00") + "10 01 " + Bench.repeat(values, "1A") + "0B 0B")
                    + " " + Bench.sized("01 3C 7F 0B")));
            Bench.due("locals to the brim " + values, Bench.ending(forge, 0, 97), values == 238 ? 0 : 13);
        }
    }

    /** "14 the 100001st step". */
    private static void mostSteps() {
        // the loop, 5 steps a round, and nops behind
        for (int nops = 0; nops <= 12; nops++) {
            WaferForge forge = Bench.loaded(Bench.one("01 7F 00", "00", "03 40 20 00 41 01 6B 22 00 0D 00 0B " + Bench.repeat(nops, "01") + "0B"));
            int rounds = 19998;
            int steps = 1 + 5 * rounds + nops;
            Bench.due(steps + " steps", Bench.ending(forge, 0, rounds), steps <= 100000 ? 0 : 14);
            Bench.due("so many", forge.count(7), Math.min(steps, 100001));
        }
        String[] endings = {"00", "41 01 41 00 6D 1A", "41 7F 28 00 00 1A", "10 00", "0F", "41 05 1A"};
        for (String ending : endings) {
            for (int nops = 1; nops <= 9; nops++) {
                WaferForge forge = Bench.loaded(Bench.one("00 00", "01 01 7F", "41 9E 9C 01 21 00 03 40 20 00 41 01 6B 22 00 0D 00 0B "
                        + Bench.repeat(nops, "01") + ending + " 0B"));
                int reason = Bench.ending(forge, 0);
                boolean over = forge.count(7) > 100000;
                Bench.due("reason of " + ending + " with " + nops, reason == 14 ? 1 : 0, over ? 1 : 0);
                Bench.due("steps of " + ending + " with " + nops, forge.count(7) <= 100001 ? 1 : 0, 1);
            }
        }
        // the step that would be too many does nothing: the set is the 100000th, or the 100001st
        for (int nops = 7; nops <= 8; nops++) {
            WaferForge forge = Bench.loaded(Bench.HEAD + Bench.section(1, "01 60 01 7F 00") + Bench.section(3, "01 00")
                    + Bench.section(6, "01 7F 01 41 00 0B") + Bench.section(10, "01 " + Bench.sized("00 03 40 20 00 41 01 6B 22 00 0D 00 0B "
                    + Bench.repeat(nops, "01") + "41 07 24 00 0B")));
            Bench.due("set", Bench.ending(forge, 0, 19998), nops == 7 ? 0 : 14);
            Bench.due("global", forge.global(0), nops == 7 ? 7 : 0);
            Bench.due("steps", forge.count(7), nops == 7 ? 100000 : 100001);
        }
        WaferForge empty = Bench.loaded(Bench.one("00 00", "00", "03 40 0C 00 0B 0B"));
        Bench.due("a loop of br alone", Bench.ending(empty, 0), 14);
        Bench.due("steps", empty.count(7), 100001);
    }

    private static void steps(String what, String code, int wanted) {
        WaferForge forge = Bench.loaded(Bench.HEAD + Bench.section(1, "02 60 00 00 60 01 7F 01 7F") + Bench.section(3, "02 00 01")
                + Bench.section(5, "01 00 01") + Bench.section(6, "02 7F 01 41 00 0B 7E 01 42 00 0B")
                + Bench.section(10, "02 " + Bench.sized("02 01 7F 01 7E " + code + " 0B") + " " + Bench.sized("00 20 00 0B")));
        Bench.due(what + " ends", Bench.ending(forge, 0), 0);
        Bench.due(what + ": steps", forge.count(7), wanted);
    }

    /** "Each instruction that is begun is a step". */
    private static void stepOfEach() {
        steps("nop", "01", 1);
        steps("nops", "01 01 01", 3);
        steps("block", "02 40 0B", 1);
        steps("loop", "03 40 0B", 1);
        steps("if", "41 01 04 40 0B", 2);
        steps("br", "0C 00", 1);
        steps("br_if", "41 00 0D 00", 2);
        steps("br_if", "41 01 0D 00", 2);
        steps("br_table", "41 00 0E 00 00", 2);
        steps("return", "0F 01 01", 1);
        steps("call", "41 05 10 01 1A", 4);
        steps("drop", "41 05 1A", 2);
        steps("select", "41 05 41 06 41 07 1B 1A", 5);
        steps("locals", "20 00 21 00 20 00 22 00 1A", 5);
        steps("globals", "23 00 24 00 23 01 24 01", 4);
        steps("loads", "41 00 28 00 00 1A 41 00 29 00 00 1A 41 00 2C 00 00 1A 41 00 2D 00 00 1A", 12);
        steps("stores", "41 00 41 00 36 00 00 41 00 42 00 37 00 00 41 00 41 00 3A 00 00", 9);
        steps("size and grow", "3F 00 1A 41 00 40 00 1A", 5);
        steps("consts", "41 00 42 00 1A 1A", 4);
        for (int op = 0x45; op <= 0xAD; op++) {
            boolean known = op <= 0x5A || op >= 0x67 && op <= 0x8A || op == 0xA7 || op >= 0xAC;
            if (known) {
                boolean one = op == 0x45 || op == 0x50 || op >= 0x67 && op <= 0x69 || op >= 0x79 && op <= 0x7B || op >= 0xA7;
                boolean ofLong = op >= 0x50 && op <= 0x5A || op >= 0x79 && op <= 0xA7;
                String given = ofLong ? "42 05 " : "41 05 ";
                steps(String.format("%02X", op), (one ? given : given + given) + String.format("%02X 1A", op), one ? 3 : 4);
            }
        }
    }

    /** "(but else and end ...)". */
    private static void noSteps() {
        steps("nothing", "", 0);
        steps("ends", Bench.repeat(50, "02 40") + Bench.repeat(50, "0B"), 50);
        steps("else that is met", "41 01 04 40 01 05 01 01 0B", 3);
        steps("else that is gone to", "41 00 04 40 01 05 01 01 0B", 4);
        steps("an empty else", "41 00 04 40 01 05 0B", 2);
        steps("no else", "41 00 04 40 01 0B 01", 3);
    }

    /** "(... a loop that goes on by br is not begun again)". */
    private static void loopsGoOn() {
        for (int rounds = 1; rounds <= 5; rounds++) {
            String count = "20 00 41 01 6A 22 00 41 " + Bench.unsigned(rounds) + " 48";
            steps("br_if to a loop", "03 40 " + count + " 0D 00 0B", 1 + 7 * rounds);
            steps("br to a loop", "03 40 " + count + " 04 40 0C 01 0B 0B", 1 + 7 * rounds + rounds - 1);
            steps("br_table to a loop", "02 40 03 40 " + count + " 0E 01 01 00 0B 0B", 2 + 7 * rounds);
            steps("a loop in a loop is begun each time", "03 40 03 40 0B " + count + " 0D 00 0B", 1 + 8 * rounds);
        }
    }

    private static void answers(String what, String type, String locals, String body, long wanted, long... arguments) {
        Bench.due(what, Bench.called(Bench.loaded(Bench.one(type, locals, body + " 0B")), 0, arguments), wanted);
    }

    /** A br to a loop leaves what lay below it, and nothing of what came since. */
    private static void loopsDropValues() {
        String round = "41 08 41 09 20 00 41 01 6B 22 00 0D 00 1A 1A";
        for (int rounds : new int[] {1, 2, 3, 1000, 9000}) {
            answers("below a loop", "01 7F 01 7F", "00", "41 05 03 40 " + round + " 0B", 5, rounds);
            answers("below two", "01 7F 01 7F", "00", "41 05 41 06 03 40 " + round + " 0B 6B", -1, rounds);
            answers("a loop's value", "01 7F 01 7F", "00", "41 05 03 7F " + round + " 41 04 0B 6B", 1, rounds);
            answers("from a block in it", "01 7F 01 7F", "00", "41 05 03 40 41 08 02 40 41 09 20 00 41 01 6B 22 00 0D 01 1A 0B 1A 0B", 5, rounds);
            answers("by br_table", "01 7F 01 7F", "00", "41 05 02 40 03 40 41 08 41 09 20 00 41 01 6B 22 00 45 0E 01 00 01 0B 0B", 5, rounds);
        }
    }

    /** Each br_table has labels of its own, be there as many as may in a module. */
    private static void tablesOfLabels() {
        String first = "02 40 02 40 02 40 20 00 0E 02 00 01 02 0B 41 01 21 01 0B 20 01 41 02 6A 21 01 0B ";
        String second = "02 40 02 40 02 40 20 00 0E 03 02 02 01 00 0B 20 01 41 0A 6A 21 01 0B 20 01 41 14 6A 21 01 0B ";
        for (int i = 0; i < 4; i++) {
            long ofFirst = i == 0 ? 3 : i == 1 ? 2 : 0;
            long ofSecond = i <= 1 ? 0 : i == 2 ? 20 : 30;
            answers("two tables " + i, "01 7F 01 7F", "01 01 7F", first + second + "20 01", ofFirst + ofSecond, i);
            answers("two tables, turned " + i, "01 7F 01 7F", "01 01 7F", second + "41 00 21 01 " + first + "20 01", ofFirst, i);
        }
        String module = Bench.HEAD + Bench.section(1, "01 60 01 7F 01 7F") + Bench.section(3, "03 00 00 00") + Bench.section(10, "03 "
                + Bench.sized("00 02 40 02 40 20 00 0E 01 00 01 0B 41 01 0F 0B 41 02 0B") + " "
                + Bench.sized("00 02 40 02 40 20 00 0E 01 01 00 0B 41 03 0F 0B 41 04 0B") + " "
                + Bench.sized("00 02 40 02 40 20 00 0E 02 01 01 00 0B 41 05 0F 0B 41 06 0B"));
        long[][] answers = {{1, 2, 2}, {4, 3, 3}, {6, 6, 5}};
        for (int f = 0; f < 3; f++) {
            for (int i = 0; i < 3; i++) {
                Bench.due("table of function " + f + " at " + i, Bench.called(Bench.loaded(module), f, i), answers[f][i]);
            }
        }
    }

    /** 100 blocks in each of 100 calls; a run that ends there leaves none of them to the next. */
    private static void mostBlocksInMostCalls() {
        // 99 blocks and an if, in which it calls itself; at 0 it is left by the outermost block's label, or ended
        WaferForge forge = Bench.loaded(Bench.one("02 7F 7F 01 7F", "00", "02 7F " + Bench.repeat(98, "02 40")
                + "20 00 04 40 20 00 41 01 6B 20 01 10 00 41 01 6A 0F 0B 20 01 04 40 00 0B 41 07 0C 62 " + Bench.repeat(98, "0B") + "00 0B 41 01 6A 0B"));
        for (int round = 0; round < 4; round++) {
            Bench.due("ended in the 100th", Bench.ending(forge, 0, 99, 1), 9);
            Bench.due("ended by the 101st", Bench.ending(forge, 0, 100, 0), 13);
            Bench.due("100 calls", Bench.called(forge, 0, 99, 0), 107);
            Bench.due("1 call", Bench.called(forge, 0, 0, 0), 8);
        }
    }

    /** Each load takes its own bytes and none beside them. */
    private static void loadsOfEachByte() {
        long low = 0x8877665544332211L;
        long high = 0xFFEEDDCCBBAA9988L;
        for (int at = 0; at <= 8; at++) {
            WaferForge forge = Bench.loaded(Bench.HEAD + Bench.section(1, "02 60 01 7F 01 7F 60 01 7F 01 7E") + Bench.section(3, "04 00 00 00 01")
                    + Bench.section(5, "01 00 01") + Bench.section(10, "04 " + Bench.sized("00 " + stored(low, high) + "20 00 2C 00 00 0B") + " "
                    + Bench.sized("00 20 00 2D 00 00 0B") + " " + Bench.sized("00 20 00 28 00 00 0B") + " " + Bench.sized("00 20 00 29 00 00 0B")));
            long there = at == 0 ? low : at == 8 ? high : low >>> 8 * at | high << 64 - 8 * at;
            Bench.due("load8_s at " + at, Bench.called(forge, 0, at), (byte) there);
            Bench.due("load8_u at " + at, Bench.called(forge, 1, at), there & 0xFF);
            Bench.due("load at " + at, Bench.called(forge, 2, at), (int) there);
            Bench.due("i64.load at " + at, Bench.called(forge, 3, at), there);
        }
        // each store puts its own bytes and none beside them
        String[] stores = {"3A", "36", "37"};
        int[] sizes = {1, 4, 8};
        for (int k = 0; k < stores.length; k++) {
            for (int at = 0; at <= 9; at++) {
                WaferForge forge = Bench.loaded(Bench.one("01 7F 00", "00", stored(-1, -1) + "20 00 " + (sizes[k] == 8 ? "42" : "41") + " 00 "
                        + stores[k] + " 00 01 0B"));
                if (at <= 15 - sizes[k]) {
                    Bench.called(forge, 0, at);
                    for (int i = 0; i < 16; i++) {
                        Bench.due(stores[k] + " at " + at + ": byte " + i, forge.memory(i), i > at && i <= at + sizes[k] ? 0 : 255);
                    }
                }
            }
        }
    }

    /** The code that puts two numbers at 0 and at 8. */
    private static String stored(long low, long high) {
        return "41 00 42 " + signed(low) + "37 03 00 41 00 42 " + signed(high) + "37 03 08 ";
    }

    private static String signed(long value) {
        StringBuilder text = new StringBuilder();
        for (int i = 0; i < 10; i++) {
            text.append(String.format("%02X ", value >> Math.min(7 * i, 63) & 0x7F | (i < 9 ? 0x80 : 0)));
        }
        return text.toString();
    }

    /** "What was put into globals and memory till then stays." */
    private static void whatWasPutStays() {
        String put = "g = g + 1; w = w + 5L; store8(0, g); grow(1); store8(65536, g);";
        String[] ends = {"trap();", "g / 0;", "(-2147483647 - 1) / (0 - 1);", "load8(-1);", "r();", "while 1 { }"};
        int[] reasons = {9, 10, 11, 12, 13, 14};
        for (int i = 0; i < ends.length; i++) {
            WaferForge forge = Bench.compiled("global g: i32 = 10; global w: i64 = 20L; fn r() { r(); } fn f(): i32 { " + put + ends[i]
                    + " g = 99; store8(0, 99); return 1; } fn ok(): i32 { return g; }");
            for (int round = 1; round <= 2; round++) {
                Bench.due("reason of " + ends[i], Bench.ending(forge, 1), reasons[i]);
                Bench.due("told reason of " + ends[i], forge.count(2), reasons[i]);
                Bench.due("global 0 behind " + ends[i], forge.global(0), 10 + round);
                Bench.due("global 1 behind " + ends[i], forge.global(1), 20 + 5 * round);
                Bench.due("memory behind " + ends[i], forge.memory(0), 10 + round);
                Bench.due("pages behind " + ends[i], forge.count(6), 2);
                Bench.due("memory of the new page behind " + ends[i], forge.memory(65536), 10 + round);
                Bench.due("arguments behind " + ends[i], forge.count(8), 0);
            }
            Bench.due("the next call", forge.call(2), 12);
            Bench.due("its reason", forge.count(2), 0);
            Bench.due("its steps", forge.count(7), 2);
        }
    }

    /** A run begins with no step, no value and no call of the one before, however that ended. */
    private static void beginsAnew() {
        WaferForge forge = deepStack(53, 50);
        for (int round = 0; round < 3; round++) {
            Bench.due("too much", Bench.ending(forge, 0, 99, 0, 0, 0, 0, 0, 0, 0), 13);
            Bench.due("just fits", Bench.ending(forge, 0, 98, 0, 0, 0, 0, 0, 0, 0), 0);
        }
        WaferForge steps = Bench.compiled("fn w(k: i32) { while k { k = k - 1; } } fn r(k: i32): i32 { if k { return r(k - 1) + 1; } return 0; }");
        for (int round = 0; round < 3; round++) {
            Bench.due("too long", Bench.ending(steps, 0, 20000), 14);
            Bench.due("long", Bench.ending(steps, 0, 12000), 0);
            Bench.due("steps", steps.count(7), 5 + 8 * 12000);
            Bench.due("too deep", Bench.ending(steps, 1, 100), 13);
            Bench.due("deep", Bench.called(steps, 1, 99), 99);
        }
        WaferForge locals = Bench.loaded(Bench.one("00 01 7F", "01 02 7F", "20 01 41 05 21 01 41 07 21 00 20 00 1A 0B"));
        Bench.due("locals are 0", locals.call(0), 0);
        Bench.due("and 0 again", locals.call(0), 0);
    }
}
