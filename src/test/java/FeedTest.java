/** Promise 2: feed. */
public final class FeedTest {
    public static void main(String[] args) {
        highestByteFirst();
        mostBytes();
        Bench.finish();
    }

    private static void highestByteFirst() {
        WaferForge forge = new WaferForge();
        byte[] text = Bench.bytes("fn f(): i64 { return 1L; } // to 40 byte");
        for (int i = 0; i < text.length; i += 20) {
            int[] ints = new int[5];
            for (int k = 0; k < 20; k++) {
                ints[k / 4] = ints[k / 4] << 8 | text[i + k];
            }
            Bench.due("feed", forge.feed(ints[0], ints[1], ints[2], ints[3], ints[4]), i + 20);
        }
        Bench.due("tape", forge.count(0), 40);
        forge.compile();
        Bench.due("what was fed", forge.call(0), 1);
    }

    private static void mostBytes() {
        WaferForge forge = new WaferForge();
        for (int i = 1; i <= 100; i++) {
            Bench.due("feed " + i, forge.feed(-1, Integer.MIN_VALUE, 0, 1, Integer.MAX_VALUE), 20 * i);
        }
        Bench.throwing("feed 101", IndexOutOfBoundsException.class, () -> forge.feed(0, 0, 0, 0, 0));
        Bench.due("the tape stays", forge.count(0), 2000);
        forge.end(1981);
        Bench.throwing("feed behind 1981", IndexOutOfBoundsException.class, () -> forge.feed(0, 0, 0, 0, 0));
        Bench.due("the tape stays", forge.count(0), 1981);
        forge.end(1980);
        Bench.due("feed behind 1980", forge.feed(0, 0, 0, 0, 0), 2000);
    }
}
