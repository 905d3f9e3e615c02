/** Promise 13: add. */
public final class AddTest {
    private static final int NONE = Hand.NONE;

    public static void main(String[] args) {
        Check.sentence("13: The character becomes the last one", AddTest::becomesTheLast);
        Check.sentence("13: the last one of the text, of whatever text", AddTest::behindAnyText);
        Check.sentence("13: Answers how long it is", AddTest::answersHowLong);
        Check.sentence("13: NONE when it is no character", AddTest::noCharacter);
        Check.sentence("13: NONE when it is 13", AddTest::thirteen);
        Check.sentence("13: or the text has 4096", AddTest::textHasMost);
        Check.sentence("13: [the text has 4095]", AddTest::textHasOneLess);
        Check.finish();
    }

    private static void becomesTheLast() {
        Counted x = Hand.with(1, 2);
        Hand.addAll(x, 97, 10, 10, 9, 32, 55295, 57344, 65533, 65536, 1114111);
        Hand.dueState("added", () -> x, 0,
            Hand.row(97, 10, 10, 9, 32, 55295, 57344, 65533, 65536, 1114111), Hand.row(1, 2));
    }

    private static void behindAnyText() {
        Counted x = Hand.reading(254, 255, 0, 65, 0, 66, 0, 67);
        x.add(68);
        Hand.dueText("behind a text that was read", x, 65, 66, 67, 68);
        Hand.bring(x, 69);
        x.read();
        x.add(70);
        Hand.dueText("behind a shorter text", x, 69, 70);
        Hand.bring(x, 0);
        x.read();
        x.add(71);
        Hand.dueText("behind a text that stayed", x, 69, 70, 71);
        x.write(0);
        x.add(72);
        Hand.dueState("behind a text that was written", () -> x, 0, Hand.row(69, 70, 71, 72),
            Hand.row(69, 70, 71));
    }

    private static void answersHowLong() {
        Counted x = new Counted();
        for (int k = 1; k <= 500; k++) {
            Check.due("add number " + k, x.add(97), k);
        }
        Counted read = Hand.reading(65, 66, 67);
        Check.due("add behind three", read.add(68), 4);
        Check.due("add of 13 behind four", read.add(13), NONE);
        Check.due("add behind four", read.add(69), 5);
        read.read();
        Check.due("add behind none", read.add(70), 1);
    }

    private static void noCharacter() {
        Counted x = new Counted();
        x.add(97);
        int[] none = {0, 8, 11, 12, 14, 31, 55296, 56319, 56320, 57343, 65534, 65535, 1114112,
            -1, -97, Hand.LEAST_INT, Hand.MOST_INT, 97 | 1 << 21, 97 | 1 << 31, 2097152};
        for (int c : none) {
            Check.due("add(" + c + ")", x.add(c), NONE);
            Check.due("length() after add(" + c + ")", x.length(), 1);
        }
        Hand.dueText("no characters added", x, 97);
    }

    private static void thirteen() {
        Counted x = new Counted();
        Check.due("add(13) to no text", x.add(13), NONE);
        x.add(10);
        Check.due("add(13) behind 10", x.add(13), NONE);
        Hand.dueText("13 not added", x, 10);
        Check.due("add(10) behind a refused 13", x.add(10), 2);
        Hand.dueText("10 added", x, 10, 10);
    }

    private static void textHasMost() {
        int[] most = Hand.many(4096, 97);
        Hand.dueState("4096 and no more", () -> {
            Counted x = Hand.reading(most);
            Check.due("add(98) to 4096", x.add(98), NONE);
            Check.due("add(1114111) to 4096", x.add(1114111), NONE);
            Check.due("add(13) to 4096", x.add(13), NONE);
            Check.due("add(0) to 4096", x.add(0), NONE);
            return x;
        }, 0, most, Hand.row());
    }

    private static void textHasOneLess() {
        int[] read = Hand.many(4095, 97);
        Hand.dueState("4095 and one more", () -> {
            Counted x = Hand.reading(read);
            Check.due("add(1114111) to 4095", x.add(1114111), 4096);
            Check.due("add(98) to 4096", x.add(98), NONE);
            return x;
        }, 0, Hand.join(read, Hand.row(1114111)), Hand.row());
    }
}
