/** Numbers in the two encodings, right or wrong ones: nothing is refused here. */
final class Bits {
    private static final int[] HEADS = {0, 0, 0xC0, 0xE0, 0xF0};

    private Bits() {
    }

    /** A number in 8 bits, in so many bytes, be they more than it needs. */
    static int[] eight(int c, int size) {
        int[] row = new int[size];
        int left = c;
        for (int k = size - 1; k > 0; k--) {
            row[k] = 0x80 | left & 0x3F;
            left >>= 6;
        }
        row[0] = HEADS[size] | left;
        return row;
    }

    static int[] eight(int c) {
        return eight(c, c < 0x80 ? 1 : c < 0x800 ? 2 : c < 0x10000 ? 3 : 4);
    }

    /** The bytes of a way's mark and of these numbers, each of which two bytes hold. */
    static int[] pairs(int way, int... numbers) {
        int[] row = new int[2 + 2 * numbers.length];
        put(row, 0, way, 0xFEFF);
        for (int k = 0; k < numbers.length; k++) {
            put(row, 2 + 2 * k, way, numbers[k]);
        }
        return row;
    }

    private static void put(int[] row, int at, int way, int pair) {
        row[way == 1 ? at : at + 1] = pair / 256;
        row[way == 1 ? at + 1 : at] = pair % 256;
    }
}
