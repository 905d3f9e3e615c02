/** To write, and promise 12: write. */
public final class WriteTest {
    private static final int NONE = Hand.NONE;
    private static final int[][] MARKS = {{}, {254, 255}, {255, 254}, {239, 187, 191}};

    public static void main(String[] args) {
        Check.sentence("TO WRITE: the bytes by which that way begins", WriteTest::marks);
        Check.sentence("TO WRITE: then each character of the text in it", WriteTest::everyWay);
        Check.sentence("TO WRITE: [every character]", WriteTest::everyCharacterThereAndBack);
        Check.sentence("TO WRITE: in as few bytes as can be", WriteTest::fewBytes);
        Check.sentence("12: The text, written in a way (0 .. 3)", WriteTest::textStaysTheSame);
        Check.sentence("12: is what came in, in place of what did", WriteTest::inPlace);
        Check.sentence("12: Answers how many bytes", WriteTest::howMany);
        Check.sentence("12: NONE when there is no such way", WriteTest::noSuchWay);
        Check.sentence("12: or there would be more than 4096 [8 bits]", WriteTest::most8Bits);
        Check.sentence("12: or there would be more than 4096 [16 bits]", WriteTest::most16Bits);
        Check.finish();
    }

    private static void marks() {
        for (int way = 0; way < 4; way++) {
            Counted x = Hand.with(1, 2, 3, 4, 5);
            Check.due("empty: write(" + way + ")", x.write(way), MARKS[way].length);
            Hand.dueBytes("empty: write(" + way + ")", x, MARKS[way]);
        }
        // A mark that is part of the text is written too.
        Counted x = new Counted();
        Hand.addAll(x, 65279, 97);
        Check.due("65279 97: write(0)", x.write(0), 4);
        Hand.dueBytes("65279 97: write(0)", x, 239, 187, 191, 97);
        Check.due("65279 97: write(1)", x.write(1), 6);
        Hand.dueBytes("65279 97: write(1)", x, 254, 255, 254, 255, 0, 97);
        Check.due("65279 97: write(2)", x.write(2), 6);
        Hand.dueBytes("65279 97: write(2)", x, 255, 254, 255, 254, 97, 0);
        Check.due("65279 97: write(3)", x.write(3), 7);
        Hand.dueBytes("65279 97: write(3)", x, 239, 187, 191, 239, 187, 191, 97);
        x.write(0);
        x.read();
        Hand.dueState("65279 97, there and back", () -> x, 3, Hand.row(97), Hand.row());
    }

    private static void everyWay() {
        Counted x = new Counted();
        Hand.addAll(x, 10, 97, 233, 8364, 128512);
        x.write(0);
        Hand.dueBytes("write(0)", x, 10, 97, 0xC3, 0xA9, 0xE2, 0x82, 0xAC, 0xF0, 0x9F, 0x98, 0x80);
        x.write(3);
        Hand.dueBytes("write(3)", x, 239, 187, 191,
            10, 97, 0xC3, 0xA9, 0xE2, 0x82, 0xAC, 0xF0, 0x9F, 0x98, 0x80);
        x.write(1);
        Hand.dueBytes("write(1)", x, 254, 255,
            0, 10, 0, 97, 0, 233, 0x20, 0xAC, 0xD8, 0x3D, 0xDE, 0x00);
        x.write(2);
        Hand.dueBytes("write(2)", x, 255, 254,
            10, 0, 97, 0, 233, 0, 0xAC, 0x20, 0x3D, 0xD8, 0x00, 0xDE);
        // A line end that was 13, or 13 and 10, is written as the 10 that the text has.
        Counted lines = Hand.reading(13, 10, 13);
        Check.due("line ends: write(0)", lines.write(0), 2);
        Hand.dueBytes("line ends: write(0)", lines, 10, 10);
    }

    private static void everyCharacterThereAndBack() {
        int[] row = new int[100];
        Counted x = new Counted();
        int filled = 0;
        for (int c = 0; c <= 1114111; c++) {
            if (c != 13 && x.add(c) != NONE) {
                row[filled] = c;
                filled++;
            }
            if (filled == 25 || c == 1114111 || x.callsLeft() < 150) {
                thereAndBack(x, row, filled);
                filled = 0;
                x = new Counted();
            }
        }
    }

    private static void thereAndBack(Counted x, int[] row, int filled) {
        for (int way = 0; way < 4; way++) {
            x.write(way);
            Check.due("read() in way " + way + " from " + row[0], x.read(), NONE);
            Check.due("length() in way " + way + " from " + row[0], x.length(), filled);
            Check.due("way() from " + row[0], x.way(), way);
            for (int i = 0; i < filled; i++) {
                Check.due("sign in way " + way, x.sign(i), row[i]);
            }
        }
    }

    private static void fewBytes() {
        dueSize(1, 2, 9, 10, 32, 126, 127);
        dueSize(2, 2, 128, 129, 2046, 2047);
        dueSize(3, 2, 2048, 2049, 55295, 57344, 65533);
        dueSize(4, 4, 65536, 65537, 1114110, 1114111);
        Counted x = new Counted();
        Hand.addAll(x, 127, 128, 2047, 2048, 55295, 57344, 65533, 65536, 1114111);
        x.write(0);
        Hand.dueBytes("edges in 8 bits", x, 127, 0xC2, 0x80, 0xDF, 0xBF, 0xE0, 0xA0, 0x80,
            0xED, 0x9F, 0xBF, 0xEE, 0x80, 0x80, 0xEF, 0xBF, 0xBD,
            0xF0, 0x90, 0x80, 0x80, 0xF4, 0x8F, 0xBF, 0xBF);
        x.write(1);
        Hand.dueBytes("edges in 16 bits", x, 254, 255, 0, 127, 0, 128, 7, 255, 8, 0,
            0xD7, 255, 0xE0, 0, 255, 253, 0xD8, 0, 0xDC, 0, 0xDB, 255, 0xDF, 255);
        x.write(2);
        Hand.dueBytes("edges in 16 bits, lower first", x, 255, 254, 127, 0, 128, 0, 255, 7, 0, 8,
            255, 0xD7, 0, 0xE0, 253, 255, 0, 0xD8, 0, 0xDC, 255, 0xDB, 255, 0xDF);
    }

    private static void dueSize(int size8, int size16, int... signs) {
        for (int c : signs) {
            Counted x = new Counted();
            x.add(c);
            Check.due(c + ": write(0)", x.write(0), size8);
            Check.due(c + ": write(1)", x.write(1), 2 + size16);
            Check.due(c + ": write(2)", x.write(2), 2 + size16);
            Check.due(c + ": write(3)", x.write(3), 3 + size8);
        }
    }

    private static void textStaysTheSame() {
        Counted x = Hand.reading(255, 254, 97, 0, 98, 0);
        for (int way = 0; way < 4; way++) {
            int size = MARKS[way].length + (way == 1 || way == 2 ? 4 : 2);
            Check.due("write(" + way + ")", x.write(way), size);
            Hand.dueText("write(" + way + ") leaves the text", x, 97, 98);
            Check.due("write(" + way + ") leaves the way", x.way(), 2);
        }
    }

    private static void inPlace() {
        Counted x = Hand.with(Hand.many(100, 1));
        x.add(97);
        x.write(0);
        Hand.dueBytes("fewer in place of 100", x, 97);
        Check.due("end(0) of what was written", x.end(0), 1);
        Check.due("write(3) in place of none", x.write(3), 4);
        Hand.dueBytes("more in place of none", x, 239, 187, 191, 97);
        x.feed(0x62626262, 0, 0, 0, 0);
        Check.due("fed behind what was written", x.came(4), 98);
        x.change(3, 99);
        x.end(4);
        Check.due("read() of what was written and changed", x.read(), NONE);
        Hand.dueState("read back", () -> x, 3, Hand.row(99), Hand.row());
    }

    private static void howMany() {
        Counted x = new Counted();
        int[] due = {0, 2, 2, 3};
        for (int c : new int[] {97, 233, 8364, 128512, 10}) {
            x.add(c);
            int size = Bits.eight(c).length;
            due[0] += size;
            due[1] += size == 4 ? 4 : 2;
            due[2] += size == 4 ? 4 : 2;
            due[3] += size;
            for (int way = 0; way < 4; way++) {
                Check.due("write(" + way + ")", x.write(way), due[way]);
                Check.due("end(0) after write(" + way + ")", x.end(0), due[way]);
            }
        }
    }

    private static void noSuchWay() {
        Counted x = Hand.with(1, 2);
        x.add(97);
        for (int way : new int[] {-1, 4, 5, -4, 256, Hand.LEAST_INT, Hand.MOST_INT}) {
            Check.due("write(" + way + ")", x.write(way), NONE);
            Check.due("write(" + way + ") of no text", new Counted().write(way), NONE);
        }
        Hand.dueBytes("no such way", x, 1, 2);
    }

    /** The most that a way can write, and then one byte or one character more. */
    private static void most8Bits() {
        int[] ones = Hand.many(4096, 97);
        dueWritten("4096 of one byte", 0, ones, ones);
        dueWritten("4093 of one byte, marked", 3, Hand.many(4093, 97),
            Hand.join(MARKS[3], Hand.many(4093, 97)));
        dueTooMany("4094 of one byte, marked", 3, Hand.many(4094, 97));
        dueTooMany("4096 of one byte, marked", 3, ones);
        int[] twos = Hand.many(2048, 0xC3, 0xA9);
        dueWritten("2048 of two bytes", 0, twos, twos);
        dueTooMany("2048 of two bytes and one", 0, twos, 97);
        dueTooMany("2048 of two bytes, marked", 3, twos);
        int[] threes = Hand.join(Hand.many(1365, 0xE2, 0x82, 0xAC), Hand.row(97));
        dueWritten("1365 of three bytes and one", 0, threes, threes);
        dueTooMany("1365 of three bytes and two", 0, threes, 97);
        int[] markedThrees = Hand.many(1364, 0xE2, 0x82, 0xAC);
        dueWritten("1364 of three bytes and one, marked", 3, markedThrees,
            Hand.join(MARKS[3], markedThrees, Hand.row(97)), 97);
        dueTooMany("1365 of three bytes, marked", 3, markedThrees, 8364);
        int[] fours = Hand.many(1024, 0xF0, 0x9F, 0x98, 0x80);
        dueWritten("1024 of four bytes", 0, fours, fours);
        dueTooMany("1024 of four bytes and one", 0, fours, 97);
        dueTooMany("1024 of four bytes, marked", 3, fours);
        dueTooMany("1025 of four bytes", 0, fours, 128512);
    }

    private static void most16Bits() {
        for (int way = 1; way <= 2; way++) {
            int[] most = Bits.pairs(way, Hand.many(2047, 8364));
            dueWritten("2047 of 16 bits", way, most, most);
            dueTooMany("2048 of 16 bits", way, most, 97);
            dueTooMany("2048 of 16 bits, one of four", way, most, 128512);
            int[] ones = Bits.pairs(way, Hand.many(2047, 97));
            dueWritten("2047 of one byte", way, Hand.many(2047, 97), ones);
            dueTooMany("2048 of one byte", way, Hand.many(2048, 97));
            dueTooMany("4096 of one byte", way, Hand.many(4096, 97));
            int[] halves = Bits.pairs(way, Hand.many(1023, 0xD83D, 0xDE00));
            int[] fours = Hand.many(1023, 0xF0, 0x9F, 0x98, 0x80);
            dueWritten("1023 of two halves", way, fours, halves);
            int[] andOne = way == 1 ? Hand.row(0, 97) : Hand.row(97, 0);
            dueWritten("1023 of two halves and one", way, fours, Hand.join(halves, andOne), 97);
            dueTooMany("1024 of two halves", way, fours, 128512);
        }
    }

    /** The text of some bytes, and what is added to it, is written as these bytes. */
    private static void dueWritten(String what, int way, int[] read, int[] bytes, int... added) {
        Hand.dueState(what, () -> {
            Counted x = Hand.reading(read);
            Hand.addAll(x, added);
            Check.due(what + ": write(" + way + ")", x.write(way), bytes.length);
            return x;
        }, wayOf(read), Hand.join(signsOf(read), added), bytes);
    }

    private static void dueTooMany(String what, int way, int[] read, int... added) {
        Hand.dueState(what, () -> {
            Counted x = Hand.reading(read);
            Hand.addAll(x, added);
            Hand.bring(x, 7, 8, 9);
            Check.due(what + ": write(" + way + ")", x.write(way), NONE);
            return x;
        }, wayOf(read), Hand.join(signsOf(read), added), Hand.row(7, 8, 9));
    }

    private static int wayOf(int[] read) {
        return read[0] == 254 ? 1 : read[0] == 255 ? 2 : 0;
    }

    private static int[] signsOf(int[] bytes) {
        Model model = new Model();
        model.bytes = new byte[bytes.length];
        for (int i = 0; i < bytes.length; i++) {
            model.bytes[i] = (byte) bytes[i];
        }
        model.read();
        return model.text.stream().mapToInt(c -> c).toArray();
    }
}
