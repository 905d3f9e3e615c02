/**
 * Reads bytes of two encodings as characters, strictly, with line ends made one, tells of what
 * kinds these are, and writes them again in any of four ways.
 */
public final class SignReader {
    public static final int NONE = -1;

    /** The most bytes that may have come in, and the most characters that the text may have. */
    private static final int MOST = 4096;
    private static final int FED_AT_ONCE = 20;

    private static final int BARE_8_BITS = 0;
    private static final int HIGHER_FIRST = 1;
    private static final int LOWER_FIRST = 2;
    private static final int MARKED_8_BITS = 3;

    /** The bytes by which the ways 1, 2 and 3 begin are this one character, written in that way. */
    private static final int MARK = 65279;

    private static final int LINE_END = 10;
    private static final int CARRIAGE_RETURN = 13;

    private static final int FIRST_UPPER_HALF = 55296;
    private static final int LAST_UPPER_HALF = 56319;
    private static final int FIRST_LOWER_HALF = 56320;
    private static final int LAST_LOWER_HALF = 57343;
    private static final int FIRST_OF_TWO_HALVES = 65536;

    private static final int SPACE = 1;
    private static final int LETTER = 2;
    private static final int DIGIT = 4;
    private static final int NAME_START = 8;
    private static final int NAME_CHARACTER = 16;
    private static final int PUBLIC = 32;

    private static final String PUBLIC_SIGNS = "-'()+,./:=?;!*#@$_%";

    /** Each range by its first and its last number. */
    private static final int[] CHARACTER_RANGES = {
        9, 10, 13, 13, 32, 55295, 57344, 65533, 65536, 1114111
    };
    private static final int[] NAME_START_RANGES = {
        ':', ':', '_', '_', 'A', 'Z', 'a', 'z', 192, 214, 216, 246, 248, 767, 880, 893, 895, 8191,
        8204, 8205, 8304, 8591, 11264, 12271, 12289, 55295, 63744, 64975, 65008, 65533,
        65536, 983039
    };
    private static final int[] MORE_NAME_RANGES = {
        '0', '9', '-', '-', '.', '.', 183, 183, 768, 879, 8255, 8256
    };

    private final int[] bytes;
    private final int[] text;
    private int byteCount;
    private int textLength;
    private int textWay;

    public SignReader() {
        bytes = new int[MOST];
        text = new int[MOST];
        byteCount = 0;
        textLength = 0;
        textWay = BARE_8_BITS;
    }

    public void feed(int a, int b, int c, int d, int e) throws IllegalStateException {
        if (byteCount > MOST - FED_AT_ONCE) {
            throw new IllegalStateException("there would be more than 4096 bytes");
        }
        putFour(a);
        putFour(b);
        putFour(c);
        putFour(d);
        putFour(e);
    }

    public int end(int n) throws IllegalArgumentException {
        if (n < 0 || n > byteCount) {
            throw new IllegalArgumentException("there are not so many bytes");
        }
        int before = byteCount;
        byteCount = n;
        return before;
    }

    public int change(int i, int b) {
        if (!hasByte(i) || b < 0 || b > 255) {
            return NONE;
        }
        int before = bytes[i];
        bytes[i] = b;
        return before;
    }

    public int came(int i) {
        return hasByte(i) ? bytes[i] : NONE;
    }

    public int read() {
        int way = wayOfBytes();
        int refused = placeRefused(way);
        if (refused == NONE) {
            takeText(way);
            textWay = way;
        }
        byteCount = 0;
        return refused;
    }

    public int length() {
        return textLength;
    }

    public int sign(int i) {
        return hasSign(i) ? text[i] : NONE;
    }

    public int way() {
        return textWay;
    }

    public int kinds(int c) {
        return kindsOf(c);
    }

    public int run(int i, int kinds) {
        if (!hasSign(i)) {
            return 0;
        }
        int end = i;
        while (end < textLength && (kindsOf(text[end]) & kinds) != 0) {
            end++;
        }
        return end - i;
    }

    public int write(int way) {
        if (way < BARE_8_BITS || way > MARKED_8_BITS || sizeWritten(way) > MOST) {
            return NONE;
        }
        byteCount = 0;
        if (way != BARE_8_BITS) {
            putCharacter(MARK, way);
        }
        for (int i = 0; i < textLength; i++) {
            putCharacter(text[i], way);
        }
        return byteCount;
    }

    public int add(int c) {
        if (!isCharacter(c) || c == CARRIAGE_RETURN || textLength >= MOST) {
            return NONE;
        }
        putSign(c);
        return textLength;
    }

    private boolean hasByte(int i) {
        return i >= 0 && i < byteCount;
    }

    private boolean hasSign(int i) {
        return i >= 0 && i < textLength;
    }

    // Reading: a first walk over the bytes only looks, so that refused bytes leave the text alone
    // without a second row for it; the next walk takes what the first one found good.

    private int wayOfBytes() {
        for (int way = HIGHER_FIRST; way <= MARKED_8_BITS; way++) {
            if (numberAt(0, way) == MARK) {
                return way;
            }
        }
        return BARE_8_BITS;
    }

    private int placeRefused(int way) {
        int at = sizeOfMark(way);
        // A number takes a byte at least, so there are never more of them than MOST.
        for (int seen = 0; seen < MOST && at < byteCount; seen++) {
            int number = numberAt(at, way);
            if (!isCharacter(number)) {
                return at;
            }
            at += sizeOf(number, way);
        }
        return NONE;
    }

    private void takeText(int way) {
        int at = sizeOfMark(way);
        int before = NONE;
        textLength = 0;
        for (int seen = 0; seen < MOST && at < byteCount; seen++) {
            int number = numberAt(at, way);
            boolean endsSameLine = before == CARRIAGE_RETURN && number == LINE_END;
            if (!endsSameLine) {
                putSign(number == CARRIAGE_RETURN ? LINE_END : number);
            }
            before = number;
            at += sizeOf(number, way);
        }
    }

    private void putSign(int c) {
        if (textLength < MOST) {
            text[textLength] = c;
            textLength++;
        }
    }

    /** The number that begins at a place of the bytes; NONE when none can be read there. */
    private int numberAt(int at, int way) {
        return isSixteenBits(way) ? numberOf16Bits(at, way) : numberOf8Bits(at);
    }

    private int numberOf8Bits(int at) {
        int first = came(at);
        if (first < 128) {
            return first;
        }
        int behind = bytesBehind(first);
        if (behind == 0) {
            return NONE;
        }
        int number = first & (63 >> behind);
        for (int k = 1; k <= behind; k++) {
            int next = came(at + k);
            if (next < 128 || next > 191) {
                return NONE;
            }
            number = number * 64 + (next - 128);
        }
        // More bytes than the number needs are no way to say it.
        return sizeOf8Bits(number) == behind + 1 ? number : NONE;
    }

    /** How many bytes a first byte of several wants behind it; 0 when it is no such byte. */
    private static int bytesBehind(int first) {
        if ((first & 224) == 192) {
            return 1;
        }
        if ((first & 240) == 224) {
            return 2;
        }
        return (first & 248) == 240 ? 3 : 0;
    }

    /** A half without its other half is itself, which is no character. */
    private int numberOf16Bits(int at, int way) {
        int first = pairAt(at, way);
        if (first < FIRST_UPPER_HALF || first > LAST_UPPER_HALF) {
            return first;
        }
        int second = pairAt(at + 2, way);
        if (second < FIRST_LOWER_HALF || second > LAST_LOWER_HALF) {
            return first;
        }
        return FIRST_OF_TWO_HALVES
            + 1024 * (first - FIRST_UPPER_HALF) + (second - FIRST_LOWER_HALF);
    }

    private int pairAt(int at, int way) {
        int first = came(at);
        int second = came(at + 1);
        if (first == NONE || second == NONE) {
            return NONE;
        }
        return way == HIGHER_FIRST ? first * 256 + second : second * 256 + first;
    }

    // How many bytes a number takes. Reading steps by these too: it lets no other size pass.

    private int sizeWritten(int way) {
        int size = sizeOfMark(way);
        for (int i = 0; i < textLength; i++) {
            size += sizeOf(text[i], way);
        }
        return size;
    }

    private static int sizeOfMark(int way) {
        return way == BARE_8_BITS ? 0 : sizeOf(MARK, way);
    }

    private static int sizeOf(int c, int way) {
        return isSixteenBits(way) ? sizeOf16Bits(c) : sizeOf8Bits(c);
    }

    private static int sizeOf8Bits(int c) {
        if (c < 128) {
            return 1;
        }
        if (c < 2048) {
            return 2;
        }
        return c < 65536 ? 3 : 4;
    }

    private static int sizeOf16Bits(int c) {
        return c < FIRST_OF_TWO_HALVES ? 2 : 4;
    }

    private static boolean isSixteenBits(int way) {
        return way == HIGHER_FIRST || way == LOWER_FIRST;
    }

    // Writing.

    private void putCharacter(int c, int way) {
        if (isSixteenBits(way)) {
            put16Bits(c, way);
        } else {
            put8Bits(c);
        }
    }

    private void put8Bits(int c) {
        int behind = sizeOf8Bits(c) - 1;
        if (behind == 0) {
            putByte(c);
            return;
        }
        // As many ones as there are bytes in all, then a zero, head the first byte.
        int head = 256 - (128 >> behind);
        putByte(head + (c >> 6 * behind));
        for (int k = behind - 1; k >= 0; k--) {
            putByte(128 + (c >> 6 * k & 63));
        }
    }

    private void put16Bits(int c, int way) {
        if (c < FIRST_OF_TWO_HALVES) {
            putPair(c, way);
            return;
        }
        int far = c - FIRST_OF_TWO_HALVES;
        putPair(FIRST_UPPER_HALF + (far >> 10), way);
        putPair(FIRST_LOWER_HALF + (far & 1023), way);
    }

    private void putPair(int pair, int way) {
        if (way == HIGHER_FIRST) {
            putByte(pair >> 8);
            putByte(pair);
        } else {
            putByte(pair);
            putByte(pair >> 8);
        }
    }

    private void putFour(int four) {
        putByte(four >> 24);
        putByte(four >> 16);
        putByte(four >> 8);
        putByte(four);
    }

    /** Of the number given, the lowest eight bits are the byte. */
    private void putByte(int b) {
        if (byteCount < MOST) {
            bytes[byteCount] = b & 255;
            byteCount++;
        }
    }

    // Kinds. Their ranges hold characters alone, so that what is no character is of no kind.

    private static int kindsOf(int c) {
        int kinds = isSpace(c) ? SPACE : 0;
        if (isLetter(c)) {
            kinds += LETTER;
        }
        if (isDigit(c)) {
            kinds += DIGIT;
        }
        if (isWithin(NAME_START_RANGES, c)) {
            kinds += NAME_START + NAME_CHARACTER;
        } else if (isWithin(MORE_NAME_RANGES, c)) {
            kinds += NAME_CHARACTER;
        }
        if (isPublic(c)) {
            kinds += PUBLIC;
        }
        return kinds;
    }

    private static boolean isCharacter(int c) {
        return isWithin(CHARACTER_RANGES, c);
    }

    private static boolean isSpace(int c) {
        return c == ' ' || c == 9 || c == CARRIAGE_RETURN || c == LINE_END;
    }

    private static boolean isLetter(int c) {
        return c >= 'A' && c <= 'Z' || c >= 'a' && c <= 'z';
    }

    private static boolean isDigit(int c) {
        return c >= '0' && c <= '9';
    }

    private static boolean isPublic(int c) {
        if (c == ' ' || c == LINE_END || isLetter(c) || isDigit(c)) {
            return true;
        }
        return c > ' ' && c < 128 && PUBLIC_SIGNS.indexOf((char) c) >= 0;
    }

    private static boolean isWithin(int[] ranges, int c) {
        for (int k = 0; k + 1 < ranges.length; k += 2) {
            if (c >= ranges[k] && c <= ranges[k + 1]) {
                return true;
            }
        }
        return false;
    }
}
