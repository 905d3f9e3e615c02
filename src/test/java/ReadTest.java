import java.util.Arrays;

/** Promises 6 to 9: read, length, sign, way. */
public final class ReadTest {
    private static final int NONE = SignReader.NONE;

    public static void main(String[] args) {
        ways();
        marks();
        lineEnds();
        refused8Bits();
        refused16Bits();
        taken8Bits();
        taken16Bits();
        refusedKeepsTextAndWay();
        readUsesBytesUp();
        fullLength();
        sign();
        Check.finish();
    }

    private static void taken(String what, int way, int[] signs, int... bytes) {
        SignReader x = new SignReader();
        Hand.addAll(x, 88, 89, 90);
        Hand.bring(x, bytes);
        Check.due(what + ": read()", x.read(), NONE);
        Check.due(what + ": way()", x.way(), way);
        Hand.dueText(what, x, signs);
        Hand.dueBytes(what + ", used up", x);
    }

    private static void refused(int place, int... bytes) {
        String what = Arrays.toString(bytes);
        SignReader x = new SignReader();
        Hand.addAll(x, 88, 89, 90);
        Hand.bring(x, bytes);
        Check.due(what + ": read()", x.read(), place);
        Check.due(what + ": way()", x.way(), 0);
        Hand.dueText(what, x, 88, 89, 90);
        Hand.dueBytes(what + ", used up", x);
    }

    private static int[] signs(int... signs) {
        return signs;
    }

    private static void ways() {
        taken("no bytes", 0, signs());
        taken("8 bits", 0, signs(97, 233, 8364, 128512),
            97, 0xC3, 0xA9, 0xE2, 0x82, 0xAC, 0xF0, 0x9F, 0x98, 0x80);
        taken("8 bits, mark", 3, signs(97, 233), 239, 187, 191, 97, 0xC3, 0xA9);
        taken("16 bits, higher first", 1, signs(97, 8364, 128512),
            254, 255, 0, 97, 0x20, 0xAC, 0xD8, 0x3D, 0xDE, 0x00);
        taken("16 bits, lower first", 2, signs(97, 8364, 128512),
            255, 254, 97, 0, 0xAC, 0x20, 0x3D, 0xD8, 0x00, 0xDE);
    }

    private static void marks() {
        taken("only mark 1", 1, signs(), 254, 255);
        taken("only mark 2", 2, signs(), 255, 254);
        taken("only mark 3", 3, signs(), 239, 187, 191);
        taken("mark 1 twice", 1, signs(65279), 254, 255, 254, 255);
        taken("mark 2 twice", 2, signs(65279), 255, 254, 255, 254);
        taken("mark 3 twice", 3, signs(65279), 239, 187, 191, 239, 187, 191);
        taken("mark 3 behind another", 0, signs(97, 65279), 97, 239, 187, 191);
        taken("nearly mark 3", 0, signs(65278), 239, 187, 190);
        refused(0, 254);
        refused(0, 255);
        refused(0, 239);
        refused(0, 239, 187);
        refused(0, 254, 254);
        refused(0, 255, 255);
        refused(2, 254, 255, 255, 254);
        refused(2, 255, 254, 254, 255);
        refused(3, 239, 187, 191, 255, 254);
        refused(1, 97, 254, 255);
    }

    private static void lineEnds() {
        taken("10", 0, signs(10), 10);
        taken("13", 0, signs(10), 13);
        taken("13 10", 0, signs(10), 13, 10);
        taken("10 13", 0, signs(10, 10), 10, 13);
        taken("13 13", 0, signs(10, 10), 13, 13);
        taken("13 13 10", 0, signs(10, 10), 13, 13, 10);
        taken("13 10 10", 0, signs(10, 10), 13, 10, 10);
        taken("13 10 13 10", 0, signs(10, 10), 13, 10, 13, 10);
        taken("13 97 10", 0, signs(10, 97, 10), 13, 97, 10);
        taken("97 13 10 98", 3, signs(97, 10, 98), 239, 187, 191, 97, 13, 10, 98);
        taken("16 bits 13 10 13", 1, signs(10, 10), 254, 255, 0, 13, 0, 10, 0, 13);
        taken("16 bits 13 13 10", 2, signs(10, 10), 255, 254, 13, 0, 13, 0, 10, 0);
        taken("3338 is no line end", 1, signs(3338), 254, 255, 13, 10);
        // The place of a refusal counts bytes, not characters of the text.
        refused(3, 13, 10, 97, 0);
        // The line end of an earlier text has nothing to do with the next one.
        SignReader x = Hand.with(97, 13);
        x.read();
        Hand.bring(x, 10, 97);
        x.read();
        Hand.dueText("10 behind the 13 of another text", x, 10, 97);
    }

    private static void refused8Bits() {
        for (int b = 0; b < 32; b++) {
            if (b != 9 && b != 10 && b != 13) {
                refused(1, 97, b);
            }
        }
        for (int b = 128; b < 194; b++) {
            refused(1, 97, b, 128, 128, 128);
        }
        for (int b = 245; b < 256; b++) {
            refused(1, 97, b, 128, 128, 128, 128, 128);
        }
        for (int next : new int[] {0, 65, 127, 192, 195, 224, 255}) {
            refused(0, 0xC3, next, 128, 128);
            refused(0, 0xE2, next, 128, 128);
            refused(0, 0xE2, 128, next, 128);
            refused(0, 0xF1, next, 128, 128);
            refused(0, 0xF1, 128, next, 128);
            refused(0, 0xF1, 128, 128, next);
        }
        refused(2, 97, 98, 0xC3);
        refused(2, 97, 98, 0xE2, 0x82);
        refused(2, 97, 98, 0xF0, 0x9F, 0x98);
        refused(2, 0xC3, 0xA9, 0xC3);
        refused(5, 239, 187, 191, 0xC3, 0xA9, 0xC3);
        refused(3, 239, 187, 191, 0);
        refused(0, 0xC1, 0xBF);
        refused(0, 0xE0, 0x9F, 0xBF);
        refused(0, 0xF0, 0x8F, 0xBF, 0xBF);
        refused(0, 0xF0, 0x80, 0x81, 0x81);
        refused(0, 0xED, 0xA0, 0x80);
        refused(0, 0xED, 0xBF, 0xBF);
        refused(0, 0xED, 0xA0, 0xBD, 0xED, 0xB8, 0x80);
        refused(0, 0xEF, 0xBF, 0xBE);
        refused(0, 0xEF, 0xBF, 0xBF);
        refused(0, 0xF4, 0x90, 0x80, 0x80);
        refused(0, 0xF7, 0xBF, 0xBF, 0xBF);
    }

    private static void refused16Bits() {
        refused(2, 254, 255, 0);
        refused(2, 255, 254, 97);
        refused(4, 254, 255, 0, 97, 0);
        refused(2, 254, 255, 0, 0);
        refused(2, 254, 255, 0, 31);
        refused(2, 255, 254, 11, 0);
        refused(2, 254, 255, 0xFF, 0xFE);
        refused(2, 254, 255, 0xFF, 0xFF);
        refused(2, 254, 255, 0xD8, 0);
        refused(2, 254, 255, 0xD8, 0, 0xDC);
        refused(2, 254, 255, 0xD8, 0, 0, 97);
        refused(2, 254, 255, 0xD8, 0, 0xD8, 0, 0xDC, 0);
        refused(2, 254, 255, 0xD8, 0, 0xE0, 0);
        refused(2, 254, 255, 0xD8, 1, 0xDB, 0xFF);
        refused(2, 254, 255, 0xDB, 0xFF, 0xE0, 0);
        refused(2, 254, 255, 0xDB, 0xFF, 0xDB, 0xFF);
        refused(2, 254, 255, 0xDC, 0, 0xDC, 0);
        refused(2, 254, 255, 0xDF, 0xFF);
        refused(6, 254, 255, 0xD8, 0, 0xDC, 0, 0xDC, 0);
        refused(2, 255, 254, 0, 0xD8);
        refused(2, 255, 254, 0, 0xDC, 0, 0xD8);
        refused(4, 255, 254, 97, 0, 0, 0xD8, 97, 0);
    }

    private static void taken8Bits() {
        taken("edges of 8 bits", 0,
            signs(9, 32, 127, 128, 2047, 2048, 55295, 57344, 65533, 65536, 1114111),
            9, 32, 127, 0xC2, 0x80, 0xDF, 0xBF, 0xE0, 0xA0, 0x80, 0xED, 0x9F, 0xBF,
            0xEE, 0x80, 0x80, 0xEF, 0xBF, 0xBD, 0xF0, 0x90, 0x80, 0x80, 0xF4, 0x8F, 0xBF, 0xBF);
        taken("the middle bits", 0, signs(0xAB5D5), 0xF2, 0xAB, 0x97, 0x95);
    }

    private static void taken16Bits() {
        taken("edges of 16 bits", 1,
            signs(9, 32, 55295, 57344, 65533, 65536, 66559, 1113088, 1114111),
            254, 255, 0, 9, 0, 32, 0xD7, 0xFF, 0xE0, 0, 0xFF, 0xFD, 0xD8, 0, 0xDC, 0,
            0xD8, 0, 0xDF, 0xFF, 0xDB, 0xFF, 0xDC, 0, 0xDB, 0xFF, 0xDF, 0xFF);
        taken("16 bits, lower first", 2, signs(57344, 66560), 255, 254, 0, 0xE0, 1, 0xD8, 0, 0xDC);
    }

    private static void refusedKeepsTextAndWay() {
        SignReader x = Hand.with(254, 255, 0, 97, 0, 98);
        x.read();
        Hand.bring(x, 239, 187, 191, 99, 100, 101, 0);
        Check.due("refused read()", x.read(), 6);
        Check.due("way() stays", x.way(), 1);
        Hand.dueText("text stays", x, 97, 98);
        x.add(99);
        Check.due("way() stays by add", x.way(), 1);
        x.write(2);
        Check.due("way() stays by write", x.way(), 1);
        x.end(0);
        Check.due("read() of no bytes", x.read(), NONE);
        Check.due("way() of no bytes", x.way(), 0);
        Hand.dueText("text of no bytes", x);
    }

    private static void readUsesBytesUp() {
        SignReader x = Hand.with(97, 98);
        x.read();
        Hand.dueBytes("taken bytes are used up", x);
        Check.due("end(0)", x.end(0), 0);
        Hand.bring(x, 97, 0, 98);
        Check.due("refused", x.read(), 1);
        Hand.dueBytes("refused bytes are used up", x);
        Hand.dueText("text stays", x, 97, 98);
        // What stood behind the end must not be read.
        Hand.bring(x, 0xE2, 0x82, 0xAC);
        x.end(2);
        Check.due("ended within one", x.read(), 0);
        Hand.bring(x, 254, 255, 0, 97);
        x.end(3);
        Check.due("ended within two", x.read(), 2);
        Hand.bring(x, 254, 255, 0xD8, 0, 0xDC, 0);
        x.end(4);
        Check.due("ended within four", x.read(), 2);
        Hand.bring(x, 239, 187, 191);
        x.end(2);
        Check.due("ended within the mark", x.read(), 0);
    }

    private static void fullLength() {
        SignReader x = new SignReader();
        for (int k = 0; k < 204; k++) {
            x.feed(0x61616161, 0x61616161, 0x61616161, 0x61616161, 0x61616161);
        }
        x.end(4076);
        x.feed(0x62626262, 0x62626262, 0x62626262, 0x62626262, 0x6262620D);
        Check.due("read() of 4096 bytes", x.read(), NONE);
        Check.due("length()", x.length(), 4096);
        Check.due("sign(4075)", x.sign(4075), 97);
        Check.due("sign(4095)", x.sign(4095), 10);
        Check.due("sign(4096)", x.sign(4096), NONE);
        Check.due("write(0)", x.write(0), 4096);
        Check.due("change(4095, 195)", x.change(4095, 195), 10);
        Check.due("read() refused at the last byte", x.read(), 4095);
        Check.due("length()", x.length(), 4096);
    }

    private static void sign() {
        SignReader x = Hand.with(97, 98, 99);
        Hand.dueText("before read()", x);
        x.read();
        Hand.dueText("after read()", x, 97, 98, 99);
        Check.due("sign(-1)", x.sign(-1), NONE);
        Check.due("sign(least)", x.sign(Integer.MIN_VALUE), NONE);
        Check.due("sign(most)", x.sign(Integer.MAX_VALUE), NONE);
        Hand.bring(x, 100);
        x.read();
        Hand.dueText("a shorter text", x, 100);
        Check.due("sign(1) of the text before", x.sign(1), NONE);
    }
}
