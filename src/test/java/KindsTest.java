import java.util.BitSet;

/** Kinds of characters, over every number that may be one, and promises 10 and 11: kinds, run. */
public final class KindsTest {
    private static final int LAST = 1114111;
    private static final int[] ALL = kindsOfAll();

    private static final int[] LETTERS = {'A', 'Z', 'a', 'z'};
    private static final int[] DIGITS = {'0', '9'};
    private static final int[] STARTS = {
        ':', ':', '_', '_', 192, 214, 216, 246, 248, 767, 880, 893, 895, 8191, 8204, 8205,
        8304, 8591, 11264, 12271, 12289, 55295, 63744, 64975, 65008, 65533, 65536, 983039
    };
    private static final int[] MORE_IN_NAMES = {
        '-', '-', '.', '.', 183, 183, 768, 879, 8255, 8256
    };
    private static final String PUBLIC_SIGNS = "- ' ( ) + , . / : = ? ; ! * # @ $ _ %\n";

    public static void main(String[] args) {
        Check.sentence("KINDS: 1 SPACE", KindsTest::space);
        Check.sentence("KINDS: 2 LETTER", () -> dueKind(2, set(LETTERS)));
        Check.sentence("KINDS: 4 DIGIT", () -> dueKind(4, set(DIGITS)));
        Check.sentence("KINDS: 8 NAME START", () -> dueKind(8, set(LETTERS, STARTS)));
        Check.sentence("KINDS: 16 NAME CHARACTER",
            () -> dueKind(16, set(LETTERS, STARTS, DIGITS, MORE_IN_NAMES)));
        Check.sentence("KINDS: 32 PUBLIC", KindsTest::publicSigns);
        Check.sentence("10: added up", KindsTest::addedUp);
        Check.sentence("10: of any number; 0 for no character", KindsTest::noCharacter);
        Check.sentence("10: of any number [whatever the object holds]", KindsTest::anyState);
        Check.sentence("11: How many characters of the text from i on", KindsTest::fromOn);
        Check.sentence("11: of one of some kinds", KindsTest::oneOfSome);
        Check.sentence("11: (other bits do not count)", KindsTest::otherBits);
        Check.sentence("11: without one between that is not", KindsTest::noneBetween);
        Check.sentence("11: [up to the end of the text]", KindsTest::upToTheEnd);
        Check.sentence("11: 0 when i is below 0", KindsTest::belowZero);
        Check.sentence("11: or not below the length", KindsTest::notBelowTheLength);
        Check.finish();
    }

    private static int[] kindsOfAll() {
        int[] all = new int[LAST + 1];
        Counted x = new Counted();
        for (int c = 0; c <= LAST; c++) {
            x = x.callsLeft() > 0 ? x : new Counted();
            all[c] = x.kinds(c);
        }
        return all;
    }

    private static BitSet set(int[]... rows) {
        BitSet set = new BitSet();
        for (int[] row : rows) {
            for (int k = 0; k < row.length; k += 2) {
                set.set(row[k], row[k + 1] + 1);
            }
        }
        return set;
    }

    private static void dueKind(int kind, BitSet set) {
        for (int c = 0; c <= LAST; c++) {
            Check.due("kind " + kind + " of " + c, ALL[c] & kind, set.get(c) ? kind : 0);
        }
    }

    private static void space() {
        dueKind(1, set(Hand.row(32, 32, 9, 9, 13, 13, 10, 10)));
    }

    private static void publicSigns() {
        BitSet set = set(LETTERS, DIGITS);
        PUBLIC_SIGNS.chars().forEach(set::set);
        dueKind(32, set);
    }

    private static void addedUp() {
        Counted x = new Counted();
        Check.due("kinds('a')", x.kinds('a'), 2 + 8 + 16 + 32);
        Check.due("kinds('Z')", x.kinds('Z'), 2 + 8 + 16 + 32);
        Check.due("kinds('7')", x.kinds('7'), 4 + 16 + 32);
        Check.due("kinds('_')", x.kinds('_'), 8 + 16 + 32);
        Check.due("kinds('.')", x.kinds('.'), 16 + 32);
        Check.due("kinds('%')", x.kinds('%'), 32);
        Check.due("kinds(' ')", x.kinds(' '), 1 + 32);
        Check.due("kinds(10)", x.kinds(10), 1 + 32);
        Check.due("kinds(13)", x.kinds(13), 1);
        Check.due("kinds(9)", x.kinds(9), 1);
        Check.due("kinds(192)", x.kinds(192), 8 + 16);
        Check.due("kinds(183)", x.kinds(183), 16);
        Check.due("kinds(894)", x.kinds(894), 0);
        Check.due("kinds('<')", x.kinds('<'), 0);
        for (int c = 0; c <= LAST; c++) {
            Check.due("other bits of kinds(" + c + ")", ALL[c] & ~63, 0);
        }
    }

    private static void noCharacter() {
        int[] none = {0, 8, 11, 12, 14, 31, 55296, 56319, 56320, 57343, 65534, 65535, 1114112,
            -1, -32, -65, -97, Hand.LEAST_INT, Hand.MOST_INT};
        Counted x = new Counted();
        for (int c : none) {
            Check.due("kinds(" + c + ")", x.kinds(c), 0);
        }
        // Numbers whose lower bits alone would be a letter, a space, a digit or a name start.
        for (int c : new int[] {'a', ' ', '7', '_', 192, 65536, 983039}) {
            for (int bit = 21; bit < 32; bit++) {
                Check.due("kinds(" + c + " + 2^" + bit + ")", x.kinds(c | 1 << bit), 0);
            }
            Check.due("kinds(-" + c + ")", x.kinds(-c), 0);
        }
        for (int c = -300; c < 0; c++) {
            Check.due("kinds(" + c + ")", x.kinds(c), 0);
        }
    }

    private static void anyState() {
        Counted x = Hand.reading(254, 255, 0, 97);
        Hand.bring(x, 1, 2, 3);
        Check.due("kinds('b'), not in the text", x.kinds('b'), 2 + 8 + 16 + 32);
        Hand.dueState("kinds changes nothing", () -> x, 1, Hand.row(97), Hand.row(1, 2, 3));
    }

    private static Counted with(int... signs) {
        Counted x = new Counted();
        Hand.addAll(x, signs);
        return x;
    }

    private static void fromOn() {
        Counted x = with('a', 'b', 'c', '1', 'd');
        int[] due = {3, 2, 1, 0, 1};
        for (int i = 0; i < due.length; i++) {
            Check.due("run(" + i + ", 2)", x.run(i, 2), due[i]);
        }
        Hand.dueText("run leaves the text", x, 'a', 'b', 'c', '1', 'd');
    }

    private static void oneOfSome() {
        Counted x = with('a', 'b', '1', '2', ' ', 10, 9, 'c', 233, '-', '<', 'z');
        Check.due("run(0, 2)", x.run(0, 2), 2);
        Check.due("run(0, 4)", x.run(0, 4), 0);
        Check.due("run(0, 2 + 4)", x.run(0, 2 + 4), 4);
        Check.due("run(0, 1 + 2 + 4)", x.run(0, 1 + 2 + 4), 8);
        Check.due("run(2, 4)", x.run(2, 4), 2);
        Check.due("run(4, 1)", x.run(4, 1), 3);
        Check.due("run(0, 8)", x.run(0, 8), 2);
        Check.due("run(0, 16)", x.run(0, 16), 4);
        Check.due("run(0, 32)", x.run(0, 32), 6);
        Check.due("run(7, 8)", x.run(7, 8), 2);
        Check.due("run(7, 16)", x.run(7, 16), 3);
        Check.due("run(0, 63)", x.run(0, 63), 10);
        Check.due("run(0, 0), of no kinds", x.run(0, 0), 0);
    }

    private static void otherBits() {
        Counted x = with('a', 'b', '1', '<');
        for (int bit = 6; bit < 32; bit++) {
            Check.due("run(0, 2^" + bit + ")", x.run(0, 1 << bit), 0);
            Check.due("run(0, 2 + 2^" + bit + ")", x.run(0, 2 | 1 << bit), 2);
            Check.due("run(3, 63 + 2^" + bit + ")", x.run(3, 63 | 1 << bit), 0);
        }
        Check.due("run(0, ~63)", x.run(0, ~63), 0);
        Check.due("run(0, -1)", x.run(0, -1), 3);
        Check.due("run(0, most)", x.run(0, Hand.MOST_INT), 3);
        Check.due("run(0, least)", x.run(0, Hand.LEAST_INT), 0);
    }

    private static void noneBetween() {
        Counted x = with('a', '<', 'b', '<', '<', 'c', 'd');
        Check.due("run(0, 2)", x.run(0, 2), 1);
        Check.due("run(1, 2)", x.run(1, 2), 0);
        Check.due("run(2, 2)", x.run(2, 2), 1);
        Check.due("run(3, 2)", x.run(3, 2), 0);
        Check.due("run(5, 2)", x.run(5, 2), 2);
    }

    private static void upToTheEnd() {
        Counted x = with('a', 'b', 'c');
        Check.due("run(0, 2) of 3", x.run(0, 2), 3);
        Check.due("run(2, 2) of 3", x.run(2, 2), 1);
        Hand.bring(x, 'd');
        x.read();
        // What stood behind a shorter text is no part of it.
        Check.due("run(0, 2) of a shorter text", x.run(0, 2), 1);
        Counted full = Hand.reading(Hand.many(4096, 'e'));
        Check.due("run(0, 2) of 4096", full.run(0, 2), 4096);
        Check.due("run(1, 2) of 4096", full.run(1, 2), 4095);
        Check.due("run(4095, 2) of 4096", full.run(4095, 2), 1);
        Counted last = Hand.reading(Hand.join(Hand.many(4095, 'e'), Hand.row('<')));
        Check.due("run(0, 2) of 4095 and one", last.run(0, 2), 4095);
    }

    private static void belowZero() {
        Counted x = with('a', 'b', 'c');
        for (int i : new int[] {-1, -2, -4096, Hand.LEAST_INT}) {
            Check.due("run(" + i + ", 63)", x.run(i, 63), 0);
            Check.due("run(" + i + ", -1)", x.run(i, -1), 0);
        }
        Check.due("run(-1, 63) of no text", new Counted().run(-1, 63), 0);
    }

    private static void notBelowTheLength() {
        Counted x = with('a', 'b', 'c');
        for (int i : new int[] {3, 4, 4095, 4096, 4097, Hand.MOST_INT}) {
            Check.due("run(" + i + ", 63)", x.run(i, 63), 0);
            Check.due("run(" + i + ", -1)", x.run(i, -1), 0);
        }
        Check.due("run(0, 63) of no text", new Counted().run(0, 63), 0);
        Hand.bring(x, 'd');
        x.read();
        Check.due("run(1, 63) of a shorter text", x.run(1, 63), 0);
        Check.due("run(0, 63) of bytes alone", Hand.with('a').run(0, 63), 0);
        Counted full = Hand.reading(Hand.many(4096, 'e'));
        Check.due("run(4096, 63) of 4096", full.run(4096, 63), 0);
    }
}
