/** Promises 12 and 13: write and add. */
public final class WriteTest {
    private static final int NONE = SignReader.NONE;

    public static void main(String[] args) {
        emptyText();
        everyWay();
        noSuchWay();
        limits();
        everyCharacterThereAndBack();
        textBeginsWithTheMark();
        add();
        addUpToTheLimit();
        addEveryNumber();
        Check.finish();
    }

    private static void emptyText() {
        int[][] marks = {{}, {254, 255}, {255, 254}, {239, 187, 191}};
        for (int way = 0; way < 4; way++) {
            SignReader x = Hand.with(1, 2, 3, 4, 5);
            Check.due("empty: write(" + way + ")", x.write(way), marks[way].length);
            Hand.dueBytes("empty: write(" + way + ")", x, marks[way]);
        }
    }

    private static void everyWay() {
        SignReader x = Hand.with(0, 0, 0);
        Hand.addAll(x, 10, 127, 128, 2047, 2048, 65533, 65536, 1114111);
        Check.due("write(0)", x.write(0), 1 + 1 + 2 + 2 + 3 + 3 + 4 + 4);
        Hand.dueBytes("write(0)", x, 10, 127, 0xC2, 0x80, 0xDF, 0xBF, 0xE0, 0xA0, 0x80,
            0xEF, 0xBF, 0xBD, 0xF0, 0x90, 0x80, 0x80, 0xF4, 0x8F, 0xBF, 0xBF);
        Check.due("write(3)", x.write(3), 23);
        Hand.dueBytes("write(3)", x, 239, 187, 191, 10, 127, 0xC2, 0x80, 0xDF, 0xBF, 0xE0, 0xA0,
            0x80, 0xEF, 0xBF, 0xBD, 0xF0, 0x90, 0x80, 0x80, 0xF4, 0x8F, 0xBF, 0xBF);
        Check.due("write(1)", x.write(1), 22);
        Hand.dueBytes("write(1)", x, 254, 255, 0, 10, 0, 127, 0, 128, 7, 255, 8, 0, 255, 253,
            0xD8, 0, 0xDC, 0, 0xDB, 0xFF, 0xDF, 0xFF);
        Check.due("write(2)", x.write(2), 22);
        Hand.dueBytes("write(2)", x, 255, 254, 10, 0, 127, 0, 128, 0, 255, 7, 0, 8, 253, 255,
            0, 0xD8, 0, 0xDC, 0xFF, 0xDB, 0xFF, 0xDF);
        Hand.dueText("write leaves the text", x, 10, 127, 128, 2047, 2048, 65533, 65536, 1114111);
        Check.due("write leaves the way", x.way(), 0);
    }

    private static void noSuchWay() {
        SignReader x = Hand.with(1, 2);
        Hand.addAll(x, 97);
        for (int way : new int[] {-1, 4, 5, Integer.MIN_VALUE, Integer.MAX_VALUE}) {
            Check.due("write(" + way + ")", x.write(way), NONE);
            Hand.dueBytes("write(" + way + ")", x, 1, 2);
        }
    }

    /** A text that has a number of characters of one size, and the most of them in each way. */
    private static void limits() {
        int[][] mostOf = {
            {97, 4096, 2047, 2047, 4093},
            {233, 2048, 2047, 2047, 2046},
            {8364, 1365, 2047, 2047, 1364},
            {128512, 1024, 1023, 1023, 1023},
        };
        for (int[] row : mostOf) {
            for (int way = 0; way < 4; way++) {
                writeMost(row[0], way, row[way + 1]);
            }
        }
        SignReader x = new SignReader();
        addMany(x, 8364, 1365);
        x.add(97);
        Check.due("write(0) of 4096 bytes of two sizes", x.write(0), 4096);
        x.add(97);
        Check.due("write(0) of 4097 bytes of two sizes", x.write(0), NONE);
        Check.due("came(4095) after the refusal", x.came(4095), 97);
        Check.due("came(0) after the refusal", x.came(0), 0xE2);
    }

    private static void writeMost(int c, int way, int most) {
        String what = most + " of " + c + " in way " + way;
        SignReader x = new SignReader();
        addMany(x, c, most);
        int size = x.write(way);
        Check.dueThat(what + " fit", size > 4092 && size <= 4096);
        Check.due(what + ", count", Hand.count(x), size);
        Check.due(what + ", read()", x.read(), NONE);
        Check.due(what + ", way()", x.way(), way);
        Check.due(what + ", length()", x.length(), most);
        Check.due(what + ", last sign", x.sign(most - 1), c);
        if (most < 4096) {
            x.add(c);
            Hand.bring(x, 7, 8, 9);
            Check.due(what + " and one more", x.write(way), NONE);
            Hand.dueBytes(what + " and one more", x, 7, 8, 9);
            Check.due(what + " and one more, length()", x.length(), most + 1);
        }
    }

    private static void addMany(SignReader x, int c, int many) {
        for (int k = 0; k < many; k++) {
            x.add(c);
        }
    }

    private static void everyCharacterThereAndBack() {
        SignReader x = new SignReader();
        int[] row = new int[1000];
        int filled = 0;
        for (int c = 0; c <= 1114111; c++) {
            if (c != 13 && x.add(c) != NONE) {
                row[filled] = c;
                filled++;
            }
            if (filled == row.length || c == 1114111) {
                thereAndBack(x, row, filled);
                filled = 0;
                x.end(0);
                x.read();
            }
        }
    }

    private static void thereAndBack(SignReader x, int[] row, int filled) {
        for (int way = 0; way < 4; way++) {
            x.write(way);
            Check.due("read() in way " + way + " from " + row[0], x.read(), NONE);
            Check.due("length() in way " + way + " from " + row[0], x.length(), filled);
            Check.due("way() from " + row[0], x.way(), way);
            for (int i = 0; i < filled; i++) {
                Check.due("sign in way " + way, x.sign(i), row[i]);
            }
        }
    }

    private static void textBeginsWithTheMark() {
        SignReader x = new SignReader();
        Hand.addAll(x, 65279, 97);
        Check.due("mark in the text: write(0)", x.write(0), 4);
        Hand.dueBytes("mark in the text: write(0)", x, 239, 187, 191, 97);
        Check.due("mark in the text: write(3)", x.write(3), 7);
        Check.due("mark in the text: write(1)", x.write(1), 6);
        Hand.dueBytes("mark in the text: write(1)", x, 254, 255, 254, 255, 0, 97);
        x.write(0);
        x.read();
        Check.due("mark in the text: way()", x.way(), 3);
        Hand.dueText("mark in the text, taken off", x, 97);
    }

    private static void add() {
        SignReader x = Hand.with(1, 2);
        Check.due("add(97)", x.add(97), 1);
        Check.due("add(10)", x.add(10), 2);
        Check.due("add(13)", x.add(13), NONE);
        Check.due("add(10) again", x.add(10), 3);
        Check.due("add(9)", x.add(9), 4);
        Check.due("add(1114111)", x.add(1114111), 5);
        Hand.dueText("add", x, 97, 10, 10, 9, 1114111);
        Hand.dueBytes("add leaves the bytes", x, 1, 2);
        x.end(0);
        Hand.bring(x, 65);
        x.read();
        Check.due("add(66) behind a text that was read", x.add(66), 2);
        Hand.dueText("add", x, 65, 66);
    }

    private static void addUpToTheLimit() {
        SignReader x = new SignReader();
        for (int k = 1; k <= 4096; k++) {
            Check.due("add number " + k, x.add(97), k);
        }
        Check.due("add(98) to 4096", x.add(98), NONE);
        Check.due("length()", x.length(), 4096);
        Check.due("sign(4095)", x.sign(4095), 97);
        Check.due("sign(4096)", x.sign(4096), NONE);
        Check.due("write(0) of 4096", x.write(0), 4096);
    }

    private static void addEveryNumber() {
        SignReader x = new SignReader();
        for (int c = -70000; c <= 1200000; c++) {
            boolean due = c == 9 || c == 10 || c >= 32 && c <= 55295 || c >= 57344 && c <= 65533
                || c >= 65536 && c <= 1114111;
            Check.due("add(" + c + ")", x.add(c), due ? 1 : NONE);
            x.read();
        }
        Check.due("add(least)", x.add(Integer.MIN_VALUE), NONE);
        Check.due("add(most)", x.add(Integer.MAX_VALUE), NONE);
    }
}
