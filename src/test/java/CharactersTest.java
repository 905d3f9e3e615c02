/** What is a character, in all the calls that refuse what is none. */
public final class CharactersTest {
    private static final int[] FIRST_AND_LAST = {
        9, 10, 13, 13, 32, 55295, 57344, 65533, 65536, 1114111
    };
    private static final int[] BESIDE_THEM = {
        8, 11, 12, 14, 31, 55296, 57343, 65534, 65535, 1114112
    };

    public static void main(String[] args) {
        Check.sentence("CHARACTERS, by add", CharactersTest::added);
        Check.sentence("CHARACTERS, read from 8 bits", CharactersTest::readFrom8Bits);
        Check.sentence("CHARACTERS, read from 16 bits", CharactersTest::readFrom16Bits);
        Check.sentence("CHARACTERS, every number added", CharactersTest::everyNumberAdded);
        Check.sentence("CHARACTERS, every number below 65536 read", CharactersTest::everyRead);
        Check.finish();
    }

    private static boolean isCharacter(int c) {
        return c == 9 || c == 10 || c == 13 || c >= 32 && c <= 55295 || c >= 57344 && c <= 65533
            || c >= 65536 && c <= 1114111;
    }

    private static void added() {
        for (int c : FIRST_AND_LAST) {
            Counted x = new Counted();
            Check.due("add(" + c + ")", x.add(c), c == 13 ? Hand.NONE : 1);
        }
        for (int c : BESIDE_THEM) {
            Check.due("add(" + c + ")", new Counted().add(c), Hand.NONE);
        }
    }

    private static void readFrom8Bits() {
        for (int c : FIRST_AND_LAST) {
            int sign = c == 13 ? 10 : c;
            Hand.dueTaken(c + " in 8 bits", 0, Hand.row(97, sign),
                Hand.join(Hand.row(97), Bits.eight(c)));
            Hand.dueTaken(c + " in 8 bits, marked", 3, Hand.row(97, sign),
                Hand.join(Hand.row(239, 187, 191, 97), Bits.eight(c)));
        }
        for (int c : BESIDE_THEM) {
            Hand.dueRefused(1, Hand.join(Hand.row(97), Bits.eight(c)));
            Hand.dueRefused(4, Hand.join(Hand.row(239, 187, 191, 97), Bits.eight(c)));
        }
    }

    private static void readFrom16Bits() {
        for (int way = 1; way <= 2; way++) {
            for (int c : FIRST_AND_LAST) {
                Hand.dueTaken(c + " in way " + way, way, Hand.row(97, c == 13 ? 10 : c),
                    c < 65536 ? Bits.pairs(way, 97, c)
                        : Bits.pairs(way, 97, 0xD7C0 + (c >> 10), 0xDC00 + (c & 1023)));
            }
            for (int c : BESIDE_THEM) {
                if (c < 65536) {
                    Hand.dueRefused(4, Bits.pairs(way, 97, c));
                }
            }
        }
    }

    private static void everyNumberAdded() {
        Counted x = new Counted();
        for (int c = -70000; c <= 1200000; c++) {
            x = x.callsLeft() > 1 ? x : new Counted();
            Check.due("add(" + c + ")", x.add(c), isCharacter(c) && c != 13 ? 1 : Hand.NONE);
            x.read();
        }
    }

    private static void everyRead() {
        Counted x = new Counted();
        for (int c = 0; c < 65536; c++) {
            for (int way = 0; way < 3; way++) {
                x = x.callsLeft() > 6 ? x : new Counted();
                // Behind another one, so that 65279 is no mark.
                Hand.bring(x, way == 0 ? Hand.join(Hand.row(97), Bits.eight(c))
                    : Bits.pairs(way, 97, c));
                int refused = way == 0 ? 1 : 4;
                Check.due(c + " in way " + way, x.read(), isCharacter(c) ? Hand.NONE : refused);
                if (isCharacter(c)) {
                    Check.due(c + " in way " + way + ": sign(1)", x.sign(1), c == 13 ? 10 : c);
                    Check.due(c + " in way " + way + ": length()", x.length(), 2);
                }
            }
        }
    }
}
