import java.math.BigInteger;

/**
 * Terms, "i32 and i64 are whole numbers of 32 and 64 bits, with sign, that wrap": each instruction that reckons, with each
 * two numbers of a row of edges, against whole numbers without bound; and the same in the language.
 */
public final class NumberEdgesTest {
    private static final long[] EDGES = {0, 1, 2, 3, 7, 8, 31, 32, 33, 63, 64, 65, 100, 0x55555555L, 0x7FFFFFFEL, 0x7FFFFFFFL,
        0x80000000L, 0x80000001L, 0xFFFFFFFFL, 0x100000000L, 0x0123456789ABCDEFL, Long.MAX_VALUE - 1, Long.MAX_VALUE,
        Long.MIN_VALUE, Long.MIN_VALUE + 1, -0x80000001L, -0x80000000L, -100, -33, -32, -8, -3, -2, -1};
    private static final int[] PLAIN = {0x45, 0x50, 0x67, 0x68, 0x69, 0x79, 0x7A, 0x7B, 0xA7, 0xAC, 0xAD};

    public static void main(String[] args) {
        for (int op : PLAIN) {
            ofOne(op);
        }
        for (int op = 0x46; op <= 0x8A; op++) {
            boolean comparison = op <= 0x4F || op >= 0x51 && op <= 0x5A;
            if (comparison || op >= 0x6A && op <= 0x78 || op >= 0x7C) {
                ofTwo(op);
            }
        }
        language();
        argumentsAndResults();
        Bench.finish();
    }

    private static BigInteger unsigned(long value, int bits) {
        return BigInteger.valueOf(value).mod(BigInteger.ONE.shiftLeft(bits));
    }

    private static long signed(BigInteger value, int bits) {
        return bits == 32 ? value.intValue() : value.longValue();
    }

    private static WaferForge machine(int op, String from, String to, boolean two) {
        return Bench.loaded(Bench.one((two ? "02 " + from + " " + from : "01 " + from) + " 01 " + to, "00",
                "20 00 " + (two ? "20 01 " : "") + String.format("%02X 0B", op)));
    }

    private static void ofOne(int op) {
        boolean ofLong = op == 0x50 || op >= 0x79 && op <= 0xA7;
        boolean givesLong = op >= 0x79 && op <= 0x7B || op >= 0xAC;
        int bits = ofLong ? 64 : 32;
        WaferForge forge = machine(op, ofLong ? "7E" : "7F", givesLong ? "7E" : "7F", false);
        for (long given : EDGES) {
            long a = ofLong ? given : (int) given;
            BigInteger number = unsigned(a, bits);
            long wanted = switch (op) {
                case 0x45, 0x50 -> number.signum() == 0 ? 1 : 0;
                case 0x67, 0x79 -> bits - number.bitLength();
                case 0x68, 0x7A -> number.signum() == 0 ? bits : number.getLowestSetBit();
                case 0x69, 0x7B -> number.bitCount();
                case 0xA7 -> number.intValue();
                case 0xAC -> a;
                default -> number.longValue();
            };
            Bench.due(String.format("%02X of %d", op, a), Bench.called(forge, 0, given), wanted);
            Bench.due("steps", forge.count(7), 2);
        }
    }

    private static void ofTwo(int op) {
        boolean ofLong = op >= 0x51 && op <= 0x5A || op >= 0x7C;
        boolean compares = op <= 0x5A;
        String type = ofLong ? "7E" : "7F";
        for (long first : EDGES) {
            WaferForge forge = machine(op, type, compares ? "7F" : type, true);
            for (long second : EDGES) {
                long a = ofLong ? first : (int) first;
                long b = ofLong ? second : (int) second;
                int kind = compares ? op - (ofLong ? 0x51 : 0x46) : op - (ofLong ? 0x7C : 0x6A);
                int bits = ofLong ? 64 : 32;
                int ends = compares || kind < 3 || kind > 6 ? 0 : b == 0 ? 10
                        : kind == 3 && b == -1 && a == (ofLong ? Long.MIN_VALUE : Integer.MIN_VALUE) ? 11 : 0;
                String what = String.format("%02X of %d and %d", op, a, b);
                if (ends != 0) {
                    Bench.due(what, Bench.ending(forge, 0, first, second), ends);
                } else {
                    Bench.due(what, Bench.called(forge, 0, first, second), compares ? compared(kind, a, b, bits) : reckoned(kind, a, b, bits));
                }
                Bench.due("steps", forge.count(7), 3);
            }
        }
    }

    private static long compared(int kind, long a, long b, int bits) {
        int order = BigInteger.valueOf(a).compareTo(BigInteger.valueOf(b));
        int orderWithoutSign = unsigned(a, bits).compareTo(unsigned(b, bits));
        boolean holds = switch (kind) {
            case 0 -> order == 0;
            case 1 -> order != 0;
            case 2 -> order < 0;
            case 3 -> orderWithoutSign < 0;
            case 4 -> order > 0;
            case 5 -> orderWithoutSign > 0;
            case 6 -> order <= 0;
            case 7 -> orderWithoutSign <= 0;
            case 8 -> order >= 0;
            default -> orderWithoutSign >= 0;
        };
        return holds ? 1 : 0;
    }

    private static long reckoned(int kind, long a, long b, int bits) {
        BigInteger x = BigInteger.valueOf(a);
        BigInteger y = BigInteger.valueOf(b);
        BigInteger ux = unsigned(a, bits);
        BigInteger uy = unsigned(b, bits);
        int places = (int) (b & bits - 1);
        BigInteger twice = ux.shiftLeft(bits).or(ux);
        return signed(switch (kind) {
            case 0 -> x.add(y);
            case 1 -> x.subtract(y);
            case 2 -> x.multiply(y);
            case 3 -> x.divide(y);
            case 4 -> ux.divide(uy);
            case 5 -> x.remainder(y);
            case 6 -> ux.mod(uy);
            case 7 -> x.and(y);
            case 8 -> x.or(y);
            case 9 -> x.xor(y);
            case 10 -> x.shiftLeft(places);
            case 11 -> x.shiftRight(places);
            case 12 -> ux.shiftRight(places);
            case 13 -> twice.shiftRight(bits - places);
            default -> twice.shiftRight(places);
        }, bits);
    }

    private static void wraps(String type, String x, long wanted) {
        WaferForge forge = Bench.compiled("fn f(): " + type + " { return " + x + "; }");
        Bench.due(x, forge.call(0), wanted);
    }

    private static void language() {
        String least = "(-2147483647 - 1)";
        String leastLong = "(-9223372036854775807L - 1L)";
        wraps("i32", least, Integer.MIN_VALUE);
        wraps("i32", "2147483647 + 1", Integer.MIN_VALUE);
        wraps("i32", least + " - 1", Integer.MAX_VALUE);
        wraps("i32", "-" + least, Integer.MIN_VALUE);
        wraps("i32", "2147483647 * 2", -2);
        wraps("i32", "65536 * 65536", 0);
        wraps("i32", "~2147483647", Integer.MIN_VALUE);
        wraps("i32", "1 << 31", Integer.MIN_VALUE);
        wraps("i32", "1 << 32", 1);
        wraps("i32", "1 << -1", Integer.MIN_VALUE);
        wraps("i32", least + " >> 31", -1);
        wraps("i32", least + " >>> 31", 1);
        wraps("i32", least + " % -1", 0);
        wraps("i32", "-7 / 2", -3);
        wraps("i32", "-7 % 2", -1);
        wraps("i32", "7 % -2", 1);
        wraps("i32", least + " < 2147483647", 1);
        wraps("i64", leastLong, Long.MIN_VALUE);
        wraps("i64", "9223372036854775807L + 1L", Long.MIN_VALUE);
        wraps("i64", leastLong + " - 1L", Long.MAX_VALUE);
        wraps("i64", "-" + leastLong, Long.MIN_VALUE);
        wraps("i64", "4294967296L * 4294967296L", 0);
        wraps("i64", "1L << 63L", Long.MIN_VALUE);
        wraps("i64", "1L << 64L", 1);
        wraps("i64", leastLong + " >> 63L", -1);
        wraps("i64", leastLong + " >>> 63L", 1);
        wraps("i64", leastLong + " % -1L", 0);
        wraps("i32", leastLong + " < 9223372036854775807L", 1);
        wraps("i32", "i32(4294967295L)", -1);
        wraps("i32", "i32(2147483648L)", Integer.MIN_VALUE);
        wraps("i32", "i32(9223372036854775807L)", -1);
        wraps("i64", "i64(-1)", -1);
        wraps("i64", "i64(" + least + ")", Integer.MIN_VALUE);
        wraps("i32", "!0 + !5", 1);
        WaferForge forge = Bench.compiled("fn a(): i32 { return " + least + " / -1; } fn b(): i64 { return " + leastLong + " / -1L; }"
                + " fn c(): i32 { return 1 / 0; } fn d(): i64 { return 1L % 0L; } fn e(): i32 { return (" + least + " + 1) / -1; }");
        Bench.due("a quotient too great", Bench.ending(forge, 0), 11);
        Bench.due("a quotient too great", Bench.ending(forge, 1), 11);
        Bench.due("by 0", Bench.ending(forge, 2), 10);
        Bench.due("by 0", Bench.ending(forge, 3), 10);
        Bench.due("the greatest quotient", forge.call(4), Integer.MAX_VALUE);
    }

    /** "Of an i32 the lowest 32 bits", "an i32 with its sign". */
    private static void argumentsAndResults() {
        WaferForge forge = Bench.compiled("global g: i32 = 0; fn i(a: i32): i32 { g = a; store32(0, a); return a; }"
                + " fn l(a: i64): i64 { return a; } fn e(a: i32): i64 { return i64(a); } fn c(a: i32): i32 { return a < 0; }"
                + " fn n(a: i32, b: i64) { }");
        for (long value : EDGES) {
            Bench.due("i32 " + value, Bench.called(forge, 0, value), (int) value);
            Bench.due("global " + value, forge.global(0), (int) value);
            Bench.due("memory " + value, forge.memory(3), value >> 24 & 0xFF);
            Bench.due("i64 " + value, Bench.called(forge, 1, value), value);
            Bench.due("as i64 " + value, Bench.called(forge, 2, value), (int) value);
            Bench.due("below 0 " + value, Bench.called(forge, 3, value), (int) value < 0 ? 1 : 0);
        }
        Bench.due("0 without", Bench.called(forge, 4, 5, 6), 0);
    }
}
