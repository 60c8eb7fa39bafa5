/** Promise 13: mix. */
public final class MixTest {
    public static void main(String[] args) {
        TapTerminal t = new TapTerminal();
        Check.due("a mix worked out elsewhere", t.mix(9, 2, 1, 10, 1), -1835181169);
        Check.due("nothing with nothing", t.mix(0, 0, 0, 0, 0), 0);
        int[] ints = {0, 1, -1, 255, 65536, Integer.MIN_VALUE, Integer.MAX_VALUE};
        for (int key : ints) {
            for (int x : ints) {
                Check.due("x first", t.mix(key, x, 1, 2, 3), plainly(key, x, 1, 2, 3));
                Check.due("x second", t.mix(key, 1, x, 2, 3), plainly(key, 1, x, 2, 3));
                Check.due("x third", t.mix(key, 1, 2, x, 3), plainly(key, 1, 2, x, 3));
                Check.due("x last", t.mix(key, 1, 2, 3, x), plainly(key, 1, 2, 3, x));
            }
        }
        Check.done();
    }

    /** The document's words in unsigned 32-bit arithmetic on longs. */
    private static int plainly(int key, int... row) {
        long h = key & 0xFFFFFFFFL;
        for (int x : row) {
            h = (h ^ x & 0xFFFFFFFFL) * 16777619L & 0xFFFFFFFFL;
            h ^= h / 32768;
        }
        return (int) h;
    }
}
