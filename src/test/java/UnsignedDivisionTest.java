import java.math.BigInteger;

/** Promise 9, RUN: division and remainder without sign, of i32 and of i64. */
public final class UnsignedDivisionTest {
    private static final long I_MIN = Integer.MIN_VALUE;
    private static final long I_MAX = Integer.MAX_VALUE;
    private static final long L_MIN = Long.MIN_VALUE;
    private static final long L_MAX = Long.MAX_VALUE;

    public static void main(String[] args) {
        byZero();
        writtenInts();
        writtenLongs();
        inOneRun();
        edges(32);
        edges(64);
        Bench.finish();
    }

    /** A module of two functions of two numbers each: the quotient, and the remainder. */
    private static WaferForge divider(int bits) {
        String type = bits == 32 ? "7F" : "7E";
        String gets = "00 20 00 20 01 ";
        return Bench.loaded(Bench.HEAD + Bench.section(1, "01 60 02 " + type + " " + type + " 01 " + type)
                + Bench.section(3, "02 00 00") + Bench.section(10, "02 "
                + Bench.sized(gets + (bits == 32 ? "6E" : "80") + " 0B") + " "
                + Bench.sized(gets + (bits == 32 ? "70" : "82") + " 0B")));
    }

    private static void divides(WaferForge forge, int bits, long a, long b, long quotient, long rest) {
        String what = "i" + bits + " " + a + " by " + b;
        Bench.due(what + ": quotient", Bench.called(forge, 0, a, b), quotient);
        Bench.due(what + ": remainder", Bench.called(forge, 1, a, b), rest);
        Bench.due(what + ": reason", forge.count(2), 0);
        Bench.due(what + ": steps", forge.count(7), 3);
    }

    private static void divides(int bits, long a, long b, long quotient, long rest) {
        divides(divider(bits), bits, a, b, quotient, rest);
    }

    private static void byZero() {
        for (int bits = 32; bits <= 64; bits += 32) {
            WaferForge forge = divider(bits);
            long least = bits == 32 ? I_MIN : L_MIN;
            for (long a : new long[] {0, 1, 5, -1, -6, least, ~least}) {
                for (int f = 0; f < 2; f++) {
                    Bench.due("i" + bits + " " + a + " by 0", Bench.ending(forge, f, a, 0), 10);
                    Bench.due("steps", forge.count(7), 3);
                    Bench.due("arguments", forge.count(8), 0);
                }
            }
            divides(forge, bits, 7, 2, 3, 1);
        }
        Bench.due("by what is 0 in 32 bits", Bench.ending(divider(32), 0, 5, 1L << 32), 10);
        Bench.due("by what is 0 in 32 bits", Bench.ending(divider(32), 1, 5, -1L << 32), 10);
        Bench.due("by what is not 0 in 64 bits", Bench.ending(divider(64), 0, 5, 1L << 32), 0);
    }

    private static void writtenInts() {
        divides(32, 0, 1, 0, 0);
        divides(32, 7, 1, 7, 0);
        divides(32, -1, 1, -1, 0);
        divides(32, I_MIN, 1, I_MIN, 0);
        divides(32, 0, -1, 0, 0);
        divides(32, I_MAX, -1, 0, I_MAX);
        divides(32, I_MIN, -1, 0, I_MIN);
        divides(32, -2, -1, 0, -2);
        divides(32, -1, -1, 1, 0);
        // the highest bit in neither, in the number, in the divisor, in both
        divides(32, 100, 7, 14, 2);
        divides(32, I_MAX, 10, 214748364, 7);
        divides(32, 6, 7, 0, 6);
        divides(32, I_MIN, 3, 715827882, 2);
        divides(32, -7, 3, 1431655763, 0);
        divides(32, -1, 2, I_MAX, 1);
        divides(32, -1, 10, 429496729, 5);
        divides(32, -1, I_MAX, 2, 1);
        divides(32, I_MAX, I_MIN, 0, I_MAX);
        divides(32, 5, -5, 0, 5);
        divides(32, I_MIN, I_MIN, 1, 0);
        divides(32, -1, I_MIN, 1, I_MAX);
        divides(32, -5, -7, 1, 2);
        divides(32, -7, -5, 0, -7);
        // of an i32 the lowest 32 bits
        divides(32, 0x500000007L, 0x900000002L, 3, 1);
    }

    private static void writtenLongs() {
        divides(64, 0, 1, 0, 0);
        divides(64, 7, 1, 7, 0);
        divides(64, -1, 1, -1, 0);
        divides(64, L_MIN, 1, L_MIN, 0);
        divides(64, 0, -1, 0, 0);
        divides(64, L_MAX, -1, 0, L_MAX);
        divides(64, L_MIN, -1, 0, L_MIN);
        divides(64, -2, -1, 0, -2);
        divides(64, -1, -1, 1, 0);
        // the highest bit in neither, in the number, in the divisor, in both
        divides(64, 100, 7, 14, 2);
        divides(64, L_MAX, 10, 922337203685477580L, 7);
        divides(64, 6, 7, 0, 6);
        divides(64, L_MIN, 3, 3074457345618258602L, 2);
        divides(64, -7, 3, 6148914691236517203L, 0);
        divides(64, -1, 2, L_MAX, 1);
        divides(64, -1, 10, 1844674407370955161L, 5);
        divides(64, -1, L_MAX, 2, 1);
        divides(64, -2, L_MAX, 2, 0);
        divides(64, -3, L_MAX, 1, L_MAX - 1);
        divides(64, L_MAX, L_MIN, 0, L_MAX);
        divides(64, 5, -5, 0, 5);
        divides(64, L_MIN, L_MIN, 1, 0);
        divides(64, -1, L_MIN, 1, L_MAX);
        divides(64, -5, -7, 1, 2);
        divides(64, -7, -5, 0, -7);
        // what an i32 would take for signs is none here
        divides(64, 0xFFFFFFFFL, 0x80000000L, 1, I_MAX);
        divides(64, 0x100000000L, 0xFFFFFFFFL, 1, 1);
    }

    /** An i32 must be a number with its sign again for what comes next in the same run. */
    private static void inOneRun() {
        String[] codes = {"6E 41 00 48", "70 41 00 48", "6E AC 42 00 53", "70 AC 42 00 53"};
        long[] divisors = {1, -1, 1, -1};
        for (int i = 0; i < codes.length; i++) {
            WaferForge forge = Bench.loaded(Bench.one("02 7F 7F 01 7F", "00", "20 00 20 01 " + codes[i] + " 0B"));
            Bench.due("below 0 behind " + codes[i], Bench.called(forge, 0, I_MIN, divisors[i]), 1);
        }
    }

    /** Numbers round the powers of two, each by each, against whole numbers without bound. */
    private static void edges(int bits) {
        int[] powers = {0, 1, 2, 15, 16, 30, 31, 32, 33, 47, 62, 63, 64};
        for (int p : powers) {
            for (int d = -2; d <= 2; d++) {
                WaferForge forge = divider(bits);
                for (int q : powers) {
                    against(forge, bits, around(p, d), around(q, -1));
                    against(forge, bits, around(p, d), around(q, 0));
                    against(forge, bits, around(p, d), around(q, 1));
                }
            }
        }
    }

    private static long around(int power, int more) {
        return BigInteger.ONE.shiftLeft(power).longValue() + more;
    }

    private static void against(WaferForge forge, int bits, long first, long second) {
        long a = bits == 32 ? (int) first : first;
        long b = bits == 32 ? (int) second : second;
        if (b != 0) {
            BigInteger whole = BigInteger.ONE.shiftLeft(bits);
            BigInteger[] answers = BigInteger.valueOf(a).mod(whole).divideAndRemainder(BigInteger.valueOf(b).mod(whole));
            divides(forge, bits, a, b, signed(bits, answers[0]), signed(bits, answers[1]));
        }
    }

    private static long signed(int bits, BigInteger value) {
        return bits == 32 ? value.intValue() : value.longValue();
    }
}
