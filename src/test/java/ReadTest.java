import java.util.Arrays;

/** To read, the text, and promises 6 to 8: read, length, sign. */
public final class ReadTest {
    private static final int NONE = Hand.NONE;

    public static void main(String[] args) {
        Check.sentence("TO READ: where that can't be done", ReadTest::cannotBeDone);
        Check.sentence("TO READ: the bytes end within one, 8 bits", ReadTest::endWithin8Bits);
        Check.sentence("TO READ: the bytes end within one, 16 bits", ReadTest::endWithin16Bits);
        Check.sentence("TO READ: or the number is no character", ReadTest::noCharacter);
        Check.sentence("TO READ: how many there were before that one", ReadTest::howManyBefore);
        Check.sentence("THE TEXT: 13 and 10 behind it are one 10", ReadTest::twoAreOne);
        Check.sentence("THE TEXT: each other 13 is a 10", ReadTest::otherThirteens);
        Check.sentence("6: The bytes that came in are used up", ReadTest::usedUp);
        Check.sentence("6: used up, though refused", ReadTest::refusedAreUsedUp);
        Check.sentence("6: they become the text", ReadTest::becomeTheText);
        Check.sentence("6: they become the text, being none", ReadTest::noBytes);
        Check.sentence("6: they become the text, being 4096", ReadTest::mostBytes);
        Check.sentence("6: Answers NONE; otherwise the place", ReadTest::placesUpToTheLast);
        Check.sentence("6: and the text stays", ReadTest::textStays);
        Check.sentence("7: How many characters the text has", ReadTest::length);
        Check.sentence("8: Character i of the text", ReadTest::everySign);
        Check.sentence("8: NONE when there is none such", ReadTest::signNoneSuch);
        Check.finish();
    }

    private static void cannotBeDone() {
        Hand.dueRefused(1, 97, 128);
        Hand.dueRefused(1, 97, 255);
        Hand.dueRefused(1, 97, 0xC3, 97);
        Hand.dueRefused(1, 97, 0xC1, 0xA9);
        Hand.dueRefused(4, 239, 187, 191, 97, 128);
    }

    /** Rows that would be good if the bytes that stood behind the last one counted. */
    private static void endWithin8Bits() {
        int[][] rows = {{0xC3, 0xA9}, {0xE2, 0x82, 0xAC}, {0xF0, 0x9F, 0x98, 0x80}};
        int[][] before = {{}, {97}, {0xC3, 0xA9}, {239, 187, 191}, {239, 187, 191, 97}};
        for (int[] row : rows) {
            for (int[] first : before) {
                for (int n = 1; n < row.length; n++) {
                    endWithin(Hand.join(first, row), first.length + n, first.length);
                }
            }
        }
    }

    private static void endWithin16Bits() {
        for (int way = 1; way <= 2; way++) {
            endWithin(Bits.pairs(way, 97), 3, 2);
            endWithin(Bits.pairs(way, 97, 98), 5, 4);
            for (int n = 1; n <= 3; n++) {
                endWithin(Bits.pairs(way, 0xD83D, 0xDE00), 2 + n, 2);
                endWithin(Bits.pairs(way, 97, 0xD83D, 0xDE00), 4 + n, 4);
                endWithin(Bits.pairs(way, 0xD83D, 0xDE00, 0xD83D, 0xDE00), 6 + n, 6);
            }
        }
    }

    private static void endWithin(int[] whole, int n, int place) {
        String what = n + " of " + Arrays.toString(whole);
        Hand.dueRefused(place, Arrays.copyOf(whole, n));
        Counted x = Hand.with(whole);
        x.end(n);
        Check.due(what + ": read()", x.read(), place);
        Check.due(what + ": length()", x.length(), 0);
        Hand.bring(x, whole);
        Check.due(what + ", but whole: read()", x.read(), NONE);
    }

    private static void noCharacter() {
        Hand.dueRefused(1, 97, 0, 97);
        Hand.dueRefused(1, 97, 0xED, 0xA0, 0x80);
        Hand.dueRefused(1, 97, 0xED, 0xBF, 0xBF);
        // Two halves in 8 bits are no number, though they would be one in 16.
        Hand.dueRefused(1, 97, 0xED, 0xA0, 0xBD, 0xED, 0xB8, 0x80);
        Hand.dueRefused(1, 97, 0xEF, 0xBF, 0xBE);
        Hand.dueRefused(1, 97, 0xF4, 0x90, 0x80, 0x80);
        Hand.dueRefused(1, 97, 0xF7, 0xBF, 0xBF, 0xBF);
        Hand.dueRefused(4, 254, 255, 0, 97, 0, 0);
        Hand.dueRefused(4, 254, 255, 0, 97, 255, 254);
        Hand.dueRefused(4, 255, 254, 97, 0, 255, 255);
    }

    private static void howManyBefore() {
        Hand.dueRefused(0, 0);
        Hand.dueRefused(0, 0, 0, 0);
        Hand.dueRefused(2, 97, 97, 0, 97, 128);
        Hand.dueRefused(2, 0xC3, 0xA9, 0);
        Hand.dueRefused(3, 0xE2, 0x82, 0xAC, 0);
        Hand.dueRefused(4, 0xF0, 0x9F, 0x98, 0x80, 0);
        Hand.dueRefused(9, 0xF0, 0x9F, 0x98, 0x80, 0xE2, 0x82, 0xAC, 0xC3, 0xA9, 0);
        // A line end of two bytes counts as two, and a mark counts.
        Hand.dueRefused(3, 13, 10, 97, 0);
        Hand.dueRefused(3, 239, 187, 191, 0);
        Hand.dueRefused(5, 239, 187, 191, 13, 10, 0);
        Hand.dueRefused(2, 254, 255, 0, 0);
        Hand.dueRefused(6, 254, 255, 0, 13, 0, 10, 0, 0);
        Hand.dueRefused(6, 255, 254, 0x3D, 0xD8, 0, 0xDE, 0, 0);
    }

    private static void twoAreOne() {
        Hand.dueTaken("13 10", 0, Hand.row(10), 13, 10);
        Hand.dueTaken("97 13 10 98", 0, Hand.row(97, 10, 98), 97, 13, 10, 98);
        Hand.dueTaken("13 10 10", 0, Hand.row(10, 10), 13, 10, 10);
        Hand.dueTaken("13 10 13 10", 0, Hand.row(10, 10), 13, 10, 13, 10);
        Hand.dueTaken("13 13 10", 0, Hand.row(10, 10), 13, 13, 10);
        Hand.dueTaken("10 alone", 0, Hand.row(10), 10);
        Hand.dueTaken("10 10", 0, Hand.row(10, 10), 10, 10);
        Hand.dueTaken("marked 13 10", 3, Hand.row(10), 239, 187, 191, 13, 10);
        for (int way = 1; way <= 2; way++) {
            Hand.dueTaken("16 bits, 13 10", way, Hand.row(10), Bits.pairs(way, 13, 10));
            Hand.dueTaken("16 bits, 97 13 10 10 98", way, Hand.row(97, 10, 10, 98),
                Bits.pairs(way, 97, 13, 10, 10, 98));
            // These bytes stand beside each other, but are one number.
            Hand.dueTaken("16 bits, 13 * 256 + 10", way, Hand.row(0x0D0A, 0x0A0D),
                Bits.pairs(way, 0x0D0A, 0x0A0D));
        }
        Hand.dueTaken("4096 bytes of 13 10", 0, Hand.many(2048, 10), Hand.many(2048, 13, 10));
    }

    private static void otherThirteens() {
        Hand.dueTaken("13 alone", 0, Hand.row(10), 13);
        Hand.dueTaken("13 13", 0, Hand.row(10, 10), 13, 13);
        Hand.dueTaken("10 13", 0, Hand.row(10, 10), 10, 13);
        Hand.dueTaken("13 97", 0, Hand.row(10, 97), 13, 97);
        Hand.dueTaken("13 97 10", 0, Hand.row(10, 97, 10), 13, 97, 10);
        Hand.dueTaken("13 9 10", 0, Hand.row(10, 9, 10), 13, 9, 10);
        for (int way = 1; way <= 2; way++) {
            Hand.dueTaken("16 bits, 13 13", way, Hand.row(10, 10), Bits.pairs(way, 13, 13));
        }
        Hand.dueTaken("4096 bytes of 13", 0, Hand.many(4096, 10), Hand.many(4096, 13));
        // The last 13 of a text has nothing to do with the 10 of the next one.
        Counted x = Hand.reading(97, 13);
        Hand.bring(x, 10, 97);
        x.read();
        Hand.dueText("10 behind the 13 of another text", x, 10, 97);
        Counted added = Hand.reading(13);
        added.add(10);
        Hand.dueText("10 added behind a 13", added, 10, 10);
    }

    private static void usedUp() {
        Counted x = Hand.with(97, 98);
        Check.due("read()", x.read(), NONE);
        Hand.dueBytes("used up", x);
        Check.due("end(0) of bytes used up", x.end(0), 0);
        Check.dueThat("end(1) of bytes used up throws", x.endThrows(1));
        Check.due("read() of bytes used up", x.read(), NONE);
        Hand.dueText("text of bytes used up", x);
        Counted full = Hand.with(Hand.many(4096, 97));
        full.read();
        Check.dueThat("feed behind 4096 used up is taken", !full.feedThrows());
        Check.due("end(0)", full.end(0), 20);
    }

    private static void refusedAreUsedUp() {
        for (int[] row : new int[][] {{97, 0, 98}, {0}, {254, 255, 0}, {239, 187}, {97, 128}}) {
            Counted x = Hand.with(row);
            Check.dueThat("refused", x.read() != NONE);
            Hand.dueBytes("refused, used up", x);
            Check.due("refused, used up: end(0)", x.end(0), 0);
            Check.dueThat("refused, used up: end(1) throws", x.endThrows(1));
            Hand.bring(x, 99);
            Check.due("read() behind a refusal", x.read(), NONE);
            Hand.dueText("text behind a refusal", x, 99);
        }
    }

    private static void becomeTheText() {
        Counted x = Hand.reading(97, 98, 99);
        Hand.dueText("first text", x, 97, 98, 99);
        Hand.bring(x, 100);
        Check.due("read() of fewer", x.read(), NONE);
        Hand.dueText("a shorter text in its place", x, 100);
        x.add(101);
        Hand.dueText("what stood behind it is gone", x, 100, 101);
        Hand.bring(x, 102, 103, 104, 105);
        Check.due("read() of more", x.read(), NONE);
        Hand.dueText("a longer text in its place", x, 102, 103, 104, 105);
    }

    private static void noBytes() {
        Check.due("new: read()", new Counted().read(), NONE);
        Counted x = Hand.reading(254, 255, 0, 97);
        Check.due("read() of no bytes", x.read(), NONE);
        Hand.dueState("read() of no bytes", () -> x, 0, Hand.row(), Hand.row());
    }

    private static void mostBytes() {
        int[] ones = Hand.many(4096, 97);
        ones[0] = 98;
        ones[4095] = 99;
        Hand.dueTaken("4096 of one byte", 0, ones, ones);
        Hand.dueTaken("2048 of two bytes", 0, Hand.many(2048, 233), Hand.many(2048, 0xC3, 0xA9));
        Hand.dueTaken("1365 of three bytes and one", 0,
            Hand.join(Hand.many(1365, 8364), Hand.row(97)),
            Hand.join(Hand.many(1365, 0xE2, 0x82, 0xAC), Hand.row(97)));
        Hand.dueTaken("1024 of four bytes", 0, Hand.many(1024, 128512),
            Hand.many(1024, 0xF0, 0x9F, 0x98, 0x80));
        Hand.dueTaken("4093 of one byte, marked", 3, Hand.many(4093, 97),
            Hand.join(Hand.row(239, 187, 191), Hand.many(4093, 97)));
        Hand.dueTaken("2047 of 16 bits", 1, Hand.many(2047, 8364),
            Bits.pairs(1, Hand.many(2047, 8364)));
        Hand.dueTaken("1023 of two halves and one", 2,
            Hand.join(Hand.many(1023, 128512), Hand.row(97)),
            Bits.pairs(2, Hand.join(Hand.many(1023, 0xD83D, 0xDE00), Hand.row(97))));
    }

    private static void placesUpToTheLast() {
        Hand.dueRefused(0, 0);
        for (int place : new int[] {0, 1, 19, 20, 21, 2048, 4094, 4095}) {
            int[] row = Hand.many(4096, 97);
            row[place] = 0;
            Hand.dueRefused(place, row);
        }
        Hand.dueRefused(4095, Hand.join(Hand.many(4095, 97), Hand.row(0xC3)));
        Hand.dueRefused(4094, Hand.join(Hand.many(4094, 97), Hand.row(0xE2, 0x82)));
        Hand.dueRefused(4093, Hand.join(Hand.many(4093, 97), Hand.row(0xF0, 0x9F, 0x98)));
        Hand.dueRefused(4094, Bits.pairs(1, Hand.join(Hand.many(2046, 97), Hand.row(0xD83D))));
        int[] odd = Arrays.copyOf(Bits.pairs(2, Hand.many(2047, 97)), 4095);
        Hand.dueRefused(4094, odd);
    }

    private static void textStays() {
        Counted x = Hand.reading(254, 255, 0, 97, 0, 98);
        x.add(99);
        Hand.bring(x, 239, 187, 191, 100, 101, 102, 103, 104, 0);
        Check.due("refused read()", x.read(), 8);
        Hand.dueState("text stays", () -> x, 1, Hand.row(97, 98, 99), Hand.row());
        Check.due("add behind a text that stayed", x.add(100), 4);
        Check.due("write of a text that stayed", x.write(0), 4);
        Counted none = Hand.with(97, 98, 0);
        Check.due("refused read()", none.read(), 2);
        Hand.dueState("no text stays none", () -> none, 0, Hand.row(), Hand.row());
        Hand.dueState("a full text stays", () -> {
            Counted full = Hand.reading(Hand.many(4096, 97));
            Hand.bring(full, Hand.join(Hand.many(60, 98), Hand.row(0)));
            Check.due("refused read() on a full text", full.read(), 60);
            return full;
        }, 0, Hand.many(4096, 97), Hand.row());
    }

    private static void length() {
        Counted x = new Counted();
        Check.due("new: length()", x.length(), 0);
        x.add(1114111);
        Check.due("one added: length()", x.length(), 1);
        Hand.bring(x, 97, 98);
        Check.due("two bytes came in: length()", x.length(), 1);
        x.read();
        Check.due("two read: length()", x.length(), 2);
        x.write(1);
        Check.due("written: length()", x.length(), 2);
        x.read();
        Check.due("read again: length()", x.length(), 2);
        x.read();
        Check.due("no bytes read: length()", x.length(), 0);
        // Characters are counted, not bytes and not numbers of 16 bits.
        Hand.bring(x, 0xF0, 0x9F, 0x98, 0x80, 13, 10);
        x.read();
        Check.due("six bytes read: length()", x.length(), 2);
        Check.due("full: length()", Hand.reading(Hand.many(4096, 97)).length(), 4096);
    }

    private static void everySign() {
        Counted x = Hand.reading(97, 0xC3, 0xA9, 13, 10, 0xF4, 0x8F, 0xBF, 0xBF);
        Hand.dueText("every sign", x, 97, 233, 10, 1114111);
        x.add(9);
        Check.due("sign of an added one", x.sign(4), 9);
        Check.due("sign(0) stays", x.sign(0), 97);
        Counted full = Hand.reading(Hand.join(Hand.many(4095, 97), Hand.row(98)));
        Check.due("sign(4094) of 4096", full.sign(4094), 97);
        Check.due("sign(4095) of 4096", full.sign(4095), 98);
    }

    private static void signNoneSuch() {
        Counted x = Hand.reading(97, 98, 99);
        for (int i : new int[] {-1, 3, 4, 4095, 4096, Hand.LEAST_INT, Hand.MOST_INT}) {
            Check.due("sign(" + i + ") of 3", x.sign(i), NONE);
        }
        Hand.bring(x, 100);
        Check.due("sign(0) of bytes that are not read yet", x.sign(0), 97);
        x.read();
        Check.due("sign(1) of the text before", x.sign(1), NONE);
        Check.due("sign(0) of a new object", new Counted().sign(0), NONE);
        Check.due("sign(0) of bytes alone", Hand.with(97).sign(0), NONE);
        Check.due("sign(4096) of 4096", Hand.reading(Hand.many(4096, 97)).sign(4096), NONE);
    }
}
