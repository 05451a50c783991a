/** Code, many bytes at once. */
final class CodeBytes {
    static final int COUNT = 512;

    private CodeBytes() {
    }

    static void load(CountedCard card, int from, int... bytes) {
        for (int k = 0; k < bytes.length; k += 8) {
            int n = Math.min(8, bytes.length - k);
            long v = 0;
            for (int b = 0; b < n; b++) {
                v = v << 8 | bytes[k + b] & 0xFF;
            }
            if (card.codes(from + k, v, n) != 1) {
                throw new IllegalStateException("the test's program does not fit");
            }
        }
    }

    static void clear(CountedCard card) {
        for (int i = 0; i < COUNT; i += 8) {
            card.codes(i, 0L, 8);
        }
    }
}
