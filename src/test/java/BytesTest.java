/** Promises 1 to 5: a new object, feed, end, change, came. */
public final class BytesTest {
    private static final int NONE = Hand.NONE;

    public static void main(String[] args) {
        Check.sentence("1: No bytes", BytesTest::newHasNoBytes);
        Check.sentence("1: no text", BytesTest::newHasNoText);
        Check.sentence("1: a new object, of its own", BytesTest::objectsAreApart);
        Check.sentence("2: Twenty bytes come", BytesTest::twentyCome);
        Check.sentence("2: behind those that came in", BytesTest::behindThoseThatCame);
        Check.sentence("2: the highest byte of each int first", BytesTest::highestByteFirst);
        Check.sentence("2: there would be more than 4096", BytesTest::moreThanMostThrows);
        Check.sentence("2: not more than 4096", BytesTest::justMostIsTaken);
        Check.sentence("3: The bytes that came in are only the first n", BytesTest::onlyFirst);
        Check.sentence("3: the first n, n being 0", BytesTest::endAtNone);
        Check.sentence("3: the first n, n being all", BytesTest::endAtAll);
        Check.sentence("3: Answers how many there were", BytesTest::endAnswersHowMany);
        Check.sentence("3: there are not so many", BytesTest::endNotSoMany);
        Check.sentence("3: or n is below 0", BytesTest::endBelowZero);
        Check.sentence("4: One of the bytes becomes another one", BytesTest::changeOne);
        Check.sentence("4: another one (0 .. 255)", BytesTest::changeToEveryByte);
        Check.sentence("4: Answers what it was", BytesTest::changeAnswersWhatItWas);
        Check.sentence("4: NONE when there is none such", BytesTest::changeNoneSuch);
        Check.sentence("4: or b is none", BytesTest::changeToNoByte);
        Check.sentence("5: Byte i of those that came in", BytesTest::cameEveryByte);
        Check.sentence("5: NONE when there is none such", BytesTest::cameNoneSuch);
        Check.finish();
    }

    private static void newHasNoBytes() {
        Hand.dueBytes("new", new Counted());
        Check.due("new: end(0)", new Counted().end(0), 0);
        Check.dueThat("new: end(1) throws", new Counted().endThrows(1));
        Check.due("new: change(0, 1)", new Counted().change(0, 1), NONE);
    }

    private static void newHasNoText() {
        Hand.dueText("new", new Counted());
        Check.due("new: run(0, 63)", new Counted().run(0, 63), 0);
        Check.due("new: write(0)", new Counted().write(0), 0);
        Check.due("new: add(97)", new Counted().add(97), 1);
        Check.due("NONE", SignReader.NONE, -1);
    }

    private static void objectsAreApart() {
        Counted none = new Counted();
        Counted x = Hand.reading(254, 255, 0, 88, 0, 89);
        Hand.bring(x, 66, 67);
        Counted y = Hand.reading(239, 187, 191, 90);
        Hand.bring(y, 68, 69, 70);
        Hand.dueState("made before", () -> none, 0, Hand.row(), Hand.row());
        Hand.dueState("one object", () -> x, 1, Hand.row(88, 89), Hand.row(66, 67));
        Hand.dueState("another one", () -> y, 3, Hand.row(90), Hand.row(68, 69, 70));
        Hand.dueState("made after", Counted::new, 0, Hand.row(), Hand.row());
    }

    private static void twentyCome() {
        Counted x = new Counted();
        x.feed(0, 0, 0, 0, 0);
        Hand.dueBytes("feed of zeros", x, Hand.many(20, 0));
        Check.due("end(20)", x.end(20), 20);
    }

    private static void behindThoseThatCame() {
        Counted x = Hand.with(71, 72, 73);
        x.feed(0x01020304, 0x05060708, 0x090A0B0C, 0x0D0E0F10, 0x11121314);
        Hand.dueBytes("feed behind three", x, 71, 72, 73,
            1, 2, 3, 4, 5, 6, 7, 8, 9, 10, 11, 12, 13, 14, 15, 16, 17, 18, 19, 20);
        Counted full = new Counted();
        for (int k = 0; k < 204; k++) {
            full.feed(k, k, k, k, k);
        }
        for (int k = 0; k < 204; k++) {
            Check.due("feed number " + k, full.came(20 * k + 19), k);
        }
    }

    private static void highestByteFirst() {
        Counted x = new Counted();
        x.feed(0x01020304, 0xFFFEFDFC, Hand.LEAST_INT, Hand.MOST_INT, -1);
        Hand.dueBytes("feed", x,
            1, 2, 3, 4, 255, 254, 253, 252, 128, 0, 0, 0, 127, 255, 255, 255, 255, 255, 255, 255);
    }

    private static void moreThanMostThrows() {
        for (int n : new int[] {4077, 4078, 4079, 4080, 4095, 4096}) {
            Counted x = Hand.with(Hand.many(n, 97));
            Check.dueThat("feed on " + n + " throws", x.feedThrows());
            Check.dueThat("feed on " + n + " throws again", x.feedThrows());
            Check.due("end(0) of " + n, x.end(0), n);
            Check.dueThat("feed on none is taken", !x.feedThrows());
        }
    }

    private static void justMostIsTaken() {
        for (int n : new int[] {4056, 4075, 4076}) {
            Counted x = Hand.with(Hand.many(n, 97));
            Check.dueThat("feed on " + n + " is taken", !x.feedThrows());
            Check.due("last byte of " + (n + 20), x.came(n + 19), 20);
            Check.due("end(0) of " + (n + 20), x.end(0), n + 20);
        }
    }

    private static void onlyFirst() {
        Counted x = Hand.with(65, 66, 67, 68);
        x.end(2);
        Hand.dueBytes("end(2)", x, 65, 66);
        x.feed(0x46474849, 0, 0, 0, 0);
        Check.due("fed behind the end: came(1)", x.came(1), 66);
        Check.due("fed behind the end: came(2)", x.came(2), 70);
        x.end(3);
        Check.due("read() of the first three", x.read(), NONE);
        Hand.dueText("the first three", x, 65, 66, 70);
        Counted full = Hand.with(Hand.many(4096, 97));
        full.end(4095);
        Check.due("came(4094) of 4095", full.came(4094), 97);
        Check.due("came(4095) of 4095", full.came(4095), NONE);
    }

    private static void endAtNone() {
        Counted x = Hand.with(65, 66);
        Check.due("end(0) of 2", x.end(0), 2);
        Hand.dueBytes("end(0)", x);
        Check.due("end(0) of none", x.end(0), 0);
        Hand.dueBytes("end(0) of none", x);
    }

    private static void endAtAll() {
        Counted x = Hand.with(65, 66);
        Check.due("end(2) of 2", x.end(2), 2);
        Hand.dueBytes("end(2) of 2", x, 65, 66);
        Counted full = Hand.with(Hand.many(4096, 97));
        Check.due("end(4096) of 4096", full.end(4096), 4096);
        Check.due("came(4095)", full.came(4095), 97);
    }

    private static void endAnswersHowMany() {
        Counted x = new Counted();
        x.feed(1, 2, 3, 4, 5);
        x.feed(1, 2, 3, 4, 5);
        Check.due("end(39) of 40", x.end(39), 40);
        Check.due("end(1) of 39", x.end(1), 39);
        Check.due("end(1) of 1", x.end(1), 1);
        Check.due("end(0) of 1", x.end(0), 1);
        Check.due("end(0) of 0", x.end(0), 0);
        x.add(8364);
        x.write(3);
        Check.due("end(0) of what was written", x.end(0), 6);
    }

    private static void endNotSoMany() {
        Counted x = Hand.with(65, 66);
        Check.dueThat("end(3) of 2 throws", x.endThrows(3));
        Check.dueThat("end(21) of 2 throws", x.endThrows(21));
        Check.dueThat("end(4096) of 2 throws", x.endThrows(4096));
        Check.dueThat("end(most) throws", x.endThrows(Hand.MOST_INT));
        x.end(1);
        Check.dueThat("end(2) of 1 throws, though there were 2", x.endThrows(2));
        x.end(0);
        Check.dueThat("end(1) of none throws", x.endThrows(1));
        Counted full = Hand.with(Hand.many(4096, 97));
        Check.dueThat("end(4097) of 4096 throws", full.endThrows(4097));
    }

    private static void endBelowZero() {
        Counted x = Hand.with(65, 66);
        Check.dueThat("end(-1) throws", x.endThrows(-1));
        Check.dueThat("end(-2) throws", x.endThrows(-2));
        Check.dueThat("end(least) throws", x.endThrows(Hand.LEAST_INT));
        Check.dueThat("end(-1) of none throws", new Counted().endThrows(-1));
    }

    private static void changeOne() {
        Counted x = Hand.with(65, 66, 67);
        x.change(1, 98);
        Hand.dueBytes("change of the middle one", x, 65, 98, 67);
        x.change(0, 97);
        x.change(2, 99);
        Hand.dueBytes("change of the first and the last", x, 97, 98, 99);
        Check.due("read() of changed", x.read(), NONE);
        Hand.dueText("changed", x, 97, 98, 99);
        Counted full = Hand.with(Hand.many(4096, 97));
        Check.due("change(4095, 98)", full.change(4095, 98), 97);
        Check.due("came(4095)", full.came(4095), 98);
    }

    private static void changeToEveryByte() {
        Counted x = Hand.with(7);
        int before = 7;
        for (int b = 0; b <= 255; b++) {
            Check.due("change(0, " + b + ")", x.change(0, b), before);
            before = b;
        }
        Hand.dueBytes("change to 255", x, 255);
        x.change(0, 0);
        Hand.dueBytes("change to 0", x, 0);
    }

    private static void changeAnswersWhatItWas() {
        Counted x = Hand.with(0, 255, 128);
        Check.due("change(0, 1)", x.change(0, 1), 0);
        Check.due("change(1, 2)", x.change(1, 2), 255);
        Check.due("change(2, 128), to itself", x.change(2, 128), 128);
        Check.due("change(1, 3)", x.change(1, 3), 2);
    }

    private static void changeNoneSuch() {
        Counted x = Hand.with(65, 66, 67);
        for (int i : new int[] {-1, 3, 4, 19, 20, 4095, 4096, Hand.LEAST_INT, Hand.MOST_INT}) {
            Check.due("change(" + i + ", 1) of 3", x.change(i, 1), NONE);
        }
        x.end(2);
        Check.due("change(2, 1) behind the end", x.change(2, 1), NONE);
        Counted full = Hand.with(Hand.many(4096, 97));
        Check.due("change(4096, 1) of 4096", full.change(4096, 1), NONE);
        x.end(0);
        Check.due("change(0, 1) of none", x.change(0, 1), NONE);
        Hand.bring(x, 65);
        x.read();
        Check.due("change(0, 1) of bytes used up", x.change(0, 1), NONE);
    }

    private static void changeToNoByte() {
        Counted x = Hand.with(65, 66);
        for (int b : new int[] {-1, 256, 257, 512, -255, -256, Hand.LEAST_INT, Hand.MOST_INT}) {
            Check.due("change(1, " + b + ")", x.change(1, b), NONE);
            Check.due("change(2, " + b + "), none such", x.change(2, b), NONE);
        }
        Hand.dueBytes("change to no byte", x, 65, 66);
    }

    private static void cameEveryByte() {
        int[] all = new int[256];
        for (int b = 0; b < 256; b++) {
            all[b] = b;
        }
        Hand.dueBytes("every byte", Hand.with(all), all);
        Counted full = Hand.with(Hand.join(Hand.many(4095, 1), Hand.row(2)));
        Check.due("came(4094) of 4096", full.came(4094), 1);
        Check.due("came(4095) of 4096", full.came(4095), 2);
    }

    private static void cameNoneSuch() {
        Counted x = Hand.with(65, 66, 67);
        for (int i : new int[] {-1, 3, 4, 19, 20, 4095, 4096, Hand.LEAST_INT, Hand.MOST_INT}) {
            Check.due("came(" + i + ") of 3", x.came(i), NONE);
        }
        x.end(2);
        Check.due("came(2) behind the end", x.came(2), NONE);
        Check.due("came(4096) of 4096", Hand.with(Hand.many(4096, 97)).came(4096), NONE);
        x.read();
        Check.due("came(0) of bytes used up", x.came(0), NONE);
        Check.due("came(0) of a new object", new Counted().came(0), NONE);
    }
}
