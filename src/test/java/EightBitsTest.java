/** 8 bits: which bytes are which number, and which are none. */
public final class EightBitsTest {
    private static final int[] LAST_OF_SIZE = {0, 0x7F, 0x7FF, 0xFFFD, 0x10FFFF};

    public static void main(String[] args) {
        Check.sentence("8 BITS: a byte 0 .. 127 is itself", EightBitsTest::oneByte);
        Check.sentence("8 BITS: 110xxxxx, 1110xxxx or 11110xxx", EightBitsTest::firstBytes);
        Check.sentence("8 BITS: otherwise [no such first byte]", EightBitsTest::noFirstBytes);
        Check.sentence("8 BITS: with 1, 2 or 3 bytes", EightBitsTest::howManyBehind);
        Check.sentence("8 BITS: 10xxxxxx behind it", EightBitsTest::bytesBehind);
        Check.sentence("8 BITS: for numbers from 128 on", () -> from(128, 2));
        Check.sentence("8 BITS: for numbers from 2048 on", () -> from(2048, 3));
        Check.sentence("8 BITS: for numbers from 65536 on", () -> from(65536, 4));
        Check.sentence("8 BITS: the bits x, in order", EightBitsTest::bitsInOrder);
        Check.finish();
    }

    private static void oneByte() {
        for (int b = 32; b <= 127; b++) {
            Hand.dueTaken("byte " + b, 0, Hand.row(b, 97), b, 97);
        }
        Hand.dueTaken("byte 9", 0, Hand.row(9), 9);
        Hand.dueTaken("byte 10", 0, Hand.row(10), 10);
        Hand.dueRefused(0, 128);
        Hand.dueRefused(0, 0);
    }

    private static void firstBytes() {
        for (int first = 0xC2; first <= 0xDF; first++) {
            Hand.dueTaken("first byte " + first, 0, Hand.row((first - 0xC0) * 64 + 5, 97),
                first, 0x85, 97);
        }
        for (int first = 0xE0; first <= 0xEF; first++) {
            int second = first == 0xE0 ? 0xA0 : 0x80;
            int number = (first - 0xE0) * 4096 + (second - 0x80) * 64 + 5;
            Hand.dueTaken("first byte " + first, 0, Hand.row(number, 97), first, second, 0x85, 97);
        }
        for (int first = 0xF0; first <= 0xF4; first++) {
            int second = first == 0xF0 ? 0x90 : 0x80;
            int number = (first - 0xF0) * 262144 + (second - 0x80) * 4096 + 64 + 5;
            Hand.dueTaken("first byte " + first, 0, Hand.row(number, 97),
                first, second, 0x81, 0x85, 97);
        }
    }

    private static void noFirstBytes() {
        for (int first = 128; first <= 191; first++) {
            Hand.dueRefused(0, first);
            Hand.dueRefused(1, 97, first, 97, 97);
            Hand.dueRefused(1, 97, first, 0x85, 0x85, 0x85, 0x85);
        }
        for (int first = 248; first <= 255; first++) {
            Hand.dueRefused(0, first);
            Hand.dueRefused(1, 97, first, 0x85, 97, 97, 97, 97);
            Hand.dueRefused(1, 97, first, 0x85, 0x85, 0x85, 97, 97);
            Hand.dueRefused(1, 97, first, 0x85, 0x85, 0x85, 0x85, 97);
            Hand.dueRefused(1, 97, first, 0x85, 0x85, 0x85, 0x85, 0x85);
        }
        // First bytes of numbers that are never characters, or never said in so many bytes.
        for (int first : new int[] {0xC0, 0xC1, 0xF5, 0xF6, 0xF7}) {
            Hand.dueRefused(0, first, 0x85, 0x85, 0x85);
        }
    }

    private static void howManyBehind() {
        // One too few is no number; one too many begins the next one, which is none.
        Hand.dueRefused(0, 0xC3, 97);
        Hand.dueRefused(2, 0xC3, 0xA9, 0xA9);
        Hand.dueRefused(0, 0xE2, 0x82, 97);
        Hand.dueRefused(3, 0xE2, 0x82, 0xAC, 0xAC);
        Hand.dueRefused(0, 0xF0, 0x9F, 0x98, 97);
        Hand.dueRefused(4, 0xF0, 0x9F, 0x98, 0x80, 0x80);
        Hand.dueTaken("one after another", 0, Hand.row(233, 8364, 128512, 233),
            0xC3, 0xA9, 0xE2, 0x82, 0xAC, 0xF0, 0x9F, 0x98, 0x80, 0xC3, 0xA9);
    }

    private static void bytesBehind() {
        int[][] rows = {{0xC3, 0x80}, {0xE3, 0x80, 0x80}, {0xF1, 0x80, 0x80, 0x80}};
        for (int[] row : rows) {
            for (int place = 1; place < row.length; place++) {
                for (int next = 0; next <= 255; next++) {
                    int[] bytes = Hand.join(row, Hand.row(97));
                    bytes[place] = next;
                    behind(bytes, place, next);
                }
            }
        }
    }

    private static void behind(int[] bytes, int place, int next) {
        if (next < 128 || next > 191) {
            Hand.dueRefused(0, bytes);
            return;
        }
        int size = bytes.length - 1;
        int first = bytes[0] & (size == 2 ? 31 : size == 3 ? 15 : 7);
        int number = (first << 6 * (size - 1)) + (next - 128 << 6 * (size - 1 - place));
        Hand.dueTaken("byte " + next + " at place " + place + " of " + size, 0,
            Hand.row(number, 97), bytes);
    }

    /** Numbers from a least one on take this many bytes; those below it take fewer. */
    private static void from(int least, int size) {
        Hand.dueTaken(least + " in " + size, 0, Hand.row(least), Bits.eight(least, size));
        int last = LAST_OF_SIZE[size];
        Hand.dueTaken(last + " in " + size, 0, Hand.row(last), Bits.eight(last, size));
        int below = LAST_OF_SIZE[size - 1];
        Hand.dueTaken(below + " in fewer", 0, Hand.row(below), Bits.eight(below, size - 1));
        int[] belowAll = {9, 10, 13, 32, 97, 127, 128, 233, 2047, 2048, 8364, 55295, 57344, 65533};
        for (int c : belowAll) {
            if (c < least) {
                Hand.dueRefused(0, Bits.eight(c, size));
                Hand.dueRefused(1, Hand.join(Hand.row(97), Bits.eight(c, size), Hand.row(97)));
            }
        }
        Hand.dueRefused(0, Bits.eight(0, size));
        Hand.dueRefused(0, Bits.eight(least - 1, size));
    }

    private static void bitsInOrder() {
        Hand.dueTaken("233", 0, Hand.row(233), 0xC3, 0xA9);
        Hand.dueTaken("8364", 0, Hand.row(8364), 0xE2, 0x82, 0xAC);
        Hand.dueTaken("128512", 0, Hand.row(128512), 0xF0, 0x9F, 0x98, 0x80);
        Hand.dueTaken("0xAB5D5", 0, Hand.row(0xAB5D5), 0xF2, 0xAB, 0x97, 0x95);
        for (int bit = 1; bit < 0x80; bit *= 2) {
            bitOf(0x20, bit);
        }
        for (int bit = 1; bit < 0x800; bit *= 2) {
            bitOf(0x400, bit);
        }
        for (int bit = 1; bit < 0x8000; bit *= 2) {
            bitOf(0x4000, bit);
        }
        for (int bit = 1; bit < 0x100000; bit *= 2) {
            bitOf(0x20000, bit);
            bitOf(0x40000, bit);
        }
        bitOf(0x100000, 0);
        bitOf(0xE000, 0);
    }

    private static void bitOf(int base, int bit) {
        int c = base | bit;
        Hand.dueTaken("bits of " + c, 0, Hand.row(c), Bits.eight(c));
    }
}
