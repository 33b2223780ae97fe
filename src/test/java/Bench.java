import java.io.ByteArrayOutputStream;
import java.nio.ByteBuffer;
import java.nio.IntBuffer;
import java.nio.charset.StandardCharsets;
import java.util.Arrays;

/** What the tests share: feeding the tape, building modules, and counting wrong answers. */
final class Bench {
    static final String HEAD = "00 61 73 6D 01 00 00 00";
    private static int wrong;

    interface Call {
        long run();
    }

    private Bench() {
    }

    static void due(String what, long got, long wanted) {
        if (got != wanted) {
            wrong++;
            System.out.println("wrong: " + what + ": " + got + " instead of " + wanted);
        }
    }

    static void due(String what, String got, String wanted) {
        if (!got.equals(wanted)) {
            wrong++;
            System.out.println("wrong: " + what + ": " + got + " instead of " + wanted);
        }
    }

    static void throwing(String what, Class<? extends RuntimeException> wanted, Call call) {
        String got;
        try {
            got = "the answer " + call.run();
        } catch (RuntimeException e) {
            got = e.getClass().getName();
        }
        due(what, got, wanted.getName());
    }

    static void finish() {
        if (wrong != 0) {
            System.out.println(wrong + " answers are wrong");
            System.exit(1);
        }
    }

    static byte[] bytes(String text) {
        return text.getBytes(StandardCharsets.ISO_8859_1);
    }

    static void tape(WaferForge forge, byte[] bytes) {
        forge.end(0);
        IntBuffer ints = ByteBuffer.wrap(Arrays.copyOf(bytes, (bytes.length + 19) / 20 * 20)).asIntBuffer();
        while (ints.hasRemaining()) {
            forge.feed(ints.get(), ints.get(), ints.get(), ints.get(), ints.get());
        }
        forge.end(bytes.length);
    }

    static void tape(WaferForge forge, String text) {
        tape(forge, bytes(text));
    }

    static byte[] unhex(String hex) {
        String digits = hex.replaceAll("\\s", "");
        byte[] bytes = new byte[digits.length() / 2];
        for (int i = 0; i < bytes.length; i++) {
            bytes[i] = (byte) Integer.parseInt(digits.substring(2 * i, 2 * i + 2), 16);
        }
        return bytes;
    }

    static String hex(byte[] bytes) {
        StringBuilder text = new StringBuilder();
        for (byte b : bytes) {
            text.append(text.length() == 0 ? "" : " ").append(String.format("%02X", b & 0xFF));
        }
        return text.toString();
    }

    static String unsigned(long value) {
        ByteArrayOutputStream out = new ByteArrayOutputStream();
        long rest = value;
        do {
            long part = rest & 0x7F;
            rest >>>= 7;
            out.write((int) (rest == 0 ? part : part | 0x80));
        } while (rest != 0);
        return hex(out.toByteArray());
    }

    /** A section, or a code: its size, and then its bytes. */
    static String sized(String hex) {
        return unsigned(unhex(hex).length) + " " + hex;
    }

    static String section(int id, String hex) {
        return String.format("%02X ", id) + sized(hex) + " ";
    }

    static String repeat(int times, String hex) {
        return (hex + " ").repeat(times);
    }

    /** A module of one function, of the type told by its bytes behind 60, with a memory of 1 to 2 pages. */
    static String one(String type, String locals, String body) {
        return HEAD + section(1, "01 60 " + type) + section(3, "01 00") + section(5, "01 01 01 02")
                + section(10, "01 " + sized(locals + " " + body));
    }

    static WaferForge compiled(String program) {
        WaferForge forge = new WaferForge();
        tape(forge, program);
        forge.compile();
        return forge;
    }

    static WaferForge loaded(String hex) {
        WaferForge forge = new WaferForge();
        tape(forge, unhex(hex));
        forge.module();
        return forge;
    }

    static String emitted(WaferForge forge) {
        forge.emit();
        return result(forge);
    }

    /** The bytes of THE RESULT, by one call for each eight. */
    static String result(WaferForge forge) {
        int length = forge.count(1);
        ByteBuffer bytes = ByteBuffer.allocate((length + 7) / 8 * 8);
        for (int i = 0; i < length; i += 8) {
            bytes.putLong(forge.word(i));
        }
        return hex(Arrays.copyOf(bytes.array(), length));
    }

    /** What can be seen of an object without a change of it: counts, RESULT, globals, and bytes of the memory. */
    static String seen(WaferForge forge) {
        StringBuilder text = new StringBuilder();
        for (int what = 0; what <= 8; what++) {
            text.append(what).append('=').append(forge.count(what)).append(' ');
        }
        text.append(result(forge));
        for (int g = 0; g < forge.count(5); g++) {
            text.append(" g").append(forge.global(g));
        }
        int bytes = forge.count(6) * 65536;
        for (int i : new int[] {0, 1, 7, 8, 100, 65535, 65536, 131071}) {
            text.append(i < bytes ? " m" + forge.memory(i) : "");
        }
        return text.toString();
    }

    /** The call throws, and nothing that can be seen is another behind it. */
    static void throwingOnly(String what, Class<? extends RuntimeException> wanted, WaferForge forge, Call call) {
        String before = seen(forge);
        throwing(what, wanted, call);
        due(what + " changes nothing", seen(forge), before);
    }

    static long called(WaferForge forge, int f, long... arguments) {
        for (long argument : arguments) {
            forge.argument(argument);
        }
        return forge.call(f);
    }

    /** The reason that ends the call, 0 if it answers. */
    static int ending(WaferForge forge, int f, long... arguments) {
        try {
            called(forge, f, arguments);
            return 0;
        } catch (ArithmeticException e) {
            return forge.count(2);
        }
    }

    /** The program's "#" is taken out; it marks the place. */
    static void refused(int reason, String marked) {
        int place = marked.indexOf('#');
        String program = marked.substring(0, place) + marked.substring(place + 1);
        refused(program, reason, place);
    }

    static void refused(String program, int reason, int place) {
        WaferForge forge = new WaferForge();
        tape(forge, program);
        throwing("compile of " + program, UnsupportedOperationException.class, forge::compile);
        due("reason of " + program, forge.count(2), reason);
        due("place of " + program, forge.count(3), place);
        due("tape after " + program, forge.count(0), 0);
        due("functions after " + program, forge.count(4), -1);
    }

    static void accepted(String program) {
        WaferForge forge = new WaferForge();
        tape(forge, program);
        try {
            forge.compile();
        } catch (UnsupportedOperationException e) {
            due("refused by " + forge.count(2) + " at " + forge.count(3) + ": " + program, 1, 0);
        }
    }

    /** Reason 0: the module is taken. */
    static void judged(String what, String hex, int reason) {
        WaferForge forge = new WaferForge();
        tape(forge, unhex(hex));
        try {
            forge.module();
        } catch (UnsupportedOperationException e) {
            due(what + ": place", forge.count(3), -1);
        }
        due(what + ": reason", forge.count(2), reason);
        due(what + ": is there a module", forge.count(4) >= 0 ? 1 : 0, reason == 0 ? 1 : 0);
        due(what + ": tape", forge.count(0), 0);
    }
}
