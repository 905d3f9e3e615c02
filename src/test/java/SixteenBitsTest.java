/** 16 bits: one number or two are a character, or none. */
public final class SixteenBitsTest {
    public static void main(String[] args) {
        for (int w = 1; w <= 2; w++) {
            int way = w;
            Check.sentence("16 BITS: which byte is first, way " + way, () -> byteOrder(way));
            Check.sentence("16 BITS: a number 55296 .. 56319", () -> firstHalf(way));
            Check.sentence("16 BITS: with one 56320 .. 57343 behind it", () -> secondHalf(way));
            Check.sentence("16 BITS: 65536 and 1024 times how far the first is from 55296",
                () -> howFarTheFirst(way));
            Check.sentence("16 BITS: and how far the second is from 56320",
                () -> howFarTheSecond(way));
            Check.sentence("16 BITS: any other one is itself", () -> itself(way));
            Check.sentence("16 BITS: any other one is itself [and no character]",
                () -> halfAlone(way));
        }
        Check.finish();
    }

    private static void byteOrder(int way) {
        int[] bytes = way == 1 ? Hand.row(254, 255, 1, 2, 0, 97) : Hand.row(255, 254, 2, 1, 97, 0);
        Hand.dueTaken("258 97 in way " + way, way, Hand.row(258, 97), bytes);
        int[] halves = way == 1 ? Hand.row(254, 255, 0xD8, 0x3D, 0xDE, 0)
            : Hand.row(255, 254, 0x3D, 0xD8, 0, 0xDE);
        Hand.dueTaken("128512 in way " + way, way, Hand.row(128512), halves);
    }

    private static void firstHalf(int way) {
        Hand.dueTaken("55296", way, Hand.row(65536 + 5), Bits.pairs(way, 55296, 56325));
        Hand.dueTaken("56319", way, Hand.row(65536 + 1023 * 1024 + 5),
            Bits.pairs(way, 56319, 56325));
        // 55295 is a character of its own, and leaves the other half alone.
        Hand.dueRefused(4, Bits.pairs(way, 55295, 56325));
        // 56320 is a second half itself.
        Hand.dueRefused(2, Bits.pairs(way, 56320, 56325));
        Hand.dueRefused(2, Bits.pairs(way, 57343, 56325));
        Hand.dueRefused(4, Bits.pairs(way, 57344, 56325));
    }

    private static void secondHalf(int way) {
        for (int first : new int[] {55296, 55301, 56319}) {
            int from = 65536 + 1024 * (first - 55296);
            Hand.dueTaken("56320", way, Hand.row(from), Bits.pairs(way, first, 56320));
            Hand.dueTaken("57343", way, Hand.row(from + 1023), Bits.pairs(way, first, 57343));
            for (int second : new int[] {56319, 57344, 55295, 55296, 97, 10, 0, 65533, 65535}) {
                Hand.dueRefused(2, Bits.pairs(way, first, second));
                Hand.dueRefused(2, Bits.pairs(way, first, second, 56320));
            }
        }
        // Behind it, at once: not behind a number between.
        Hand.dueRefused(4, Bits.pairs(way, 97, 55296, 97, 56320));
    }

    private static void howFarTheFirst(int way) {
        for (int far = 0; far < 1024; far++) {
            Hand.dueTaken("first half " + far, way, Hand.row(65536 + 1024 * far, 97),
                Bits.pairs(way, 55296 + far, 56320, 97));
        }
    }

    private static void howFarTheSecond(int way) {
        for (int far = 0; far < 1024; far++) {
            Hand.dueTaken("second half " + far, way, Hand.row(65536 + far, 97),
                Bits.pairs(way, 55296, 56320 + far, 97));
        }
        Hand.dueTaken("the last one", way, Hand.row(1114111), Bits.pairs(way, 56319, 57343));
    }

    private static void itself(int way) {
        int[] all = {9, 10, 32, 127, 128, 255, 256, 2047, 2048, 55295, 57344, 65279, 65533};
        for (int c : all) {
            Hand.dueTaken(c + " in way " + way, way, Hand.row(c, 97), Bits.pairs(way, c, 97));
        }
        Hand.dueTaken("each by itself", way, all, Bits.pairs(way, all));
    }

    private static void halfAlone(int way) {
        for (int half : new int[] {55296, 56319, 56320, 57343}) {
            Hand.dueRefused(2, Bits.pairs(way, half));
            Hand.dueRefused(4, Bits.pairs(way, 97, half));
            Hand.dueRefused(2, Bits.pairs(way, half, 97));
            Hand.dueRefused(6, Bits.pairs(way, 55296, 56320, half));
        }
        Hand.dueRefused(2, Bits.pairs(way, 56320, 55296));
        Hand.dueRefused(2, Bits.pairs(way, 55296, 55296, 56320));
    }
}
