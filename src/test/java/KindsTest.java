import java.util.regex.Pattern;

/** Promises 10 and 11: kinds, over every number that may be a character, and run. */
public final class KindsTest {
    private static final String START = "A-Za-z:_\\x{C0}-\\x{D6}\\x{D8}-\\x{F6}\\x{F8}-\\x{2FF}"
        + "\\x{370}-\\x{37D}\\x{37F}-\\x{1FFF}\\x{200C}\\x{200D}\\x{2070}-\\x{218F}"
        + "\\x{2C00}-\\x{2FEF}\\x{3001}-\\x{D7FF}\\x{F900}-\\x{FDCF}\\x{FDF0}-\\x{FFFD}"
        + "\\x{10000}-\\x{EFFFF}";
    private static final Pattern[] KINDS = {
        Pattern.compile("[ \\t\\r\\n]"),
        Pattern.compile("[A-Za-z]"),
        Pattern.compile("[0-9]"),
        Pattern.compile("[" + START + "]"),
        Pattern.compile("[" + START + "0-9.\\x{B7}\\x{300}-\\x{36F}\\x{203F}\\x{2040}-]"),
        Pattern.compile("[ \\nA-Za-z0-9'()+,./:=?;!*#@$_%-]"),
    };

    public static void main(String[] args) {
        everyCharacter();
        noCharacters();
        run();
        runAtTheEdges();
        Check.finish();
    }

    private static void everyCharacter() {
        SignReader x = new SignReader();
        for (int c = 0; c <= 0x10FFFF; c++) {
            String sign = new String(Character.toChars(c));
            int want = 0;
            for (int k = 0; k < KINDS.length; k++) {
                want += KINDS[k].matcher(sign).matches() ? 1 << k : 0;
            }
            Check.due("kinds(" + c + ")", x.kinds(c), want);
        }
        Check.due("kinds('%')", x.kinds('%'), 32);
        Check.due("kinds('7')", x.kinds('7'), 4 + 16 + 32);
        Check.due("kinds('_')", x.kinds('_'), 8 + 16 + 32);
        Check.due("kinds('.')", x.kinds('.'), 16 + 32);
        Check.due("kinds(10)", x.kinds(10), 1 + 32);
        Check.due("kinds(9)", x.kinds(9), 1);
        Check.due("kinds(183)", x.kinds(183), 16);
        Check.due("kinds(894)", x.kinds(894), 0);
    }

    private static void noCharacters() {
        SignReader x = new SignReader();
        int[] none = {-1, -65, -32, 0, 8, 11, 31, 55296, 57343, 65534, 65535, 1114112,
            65536 * 32 + 97, (1 << 31) + 97, Integer.MIN_VALUE, Integer.MAX_VALUE};
        for (int c : none) {
            Check.due("kinds(" + c + ")", x.kinds(c), 0);
        }
    }

    private static void run() {
        SignReader x = new SignReader();
        Hand.addAll(x, 'a', 'b', '1', '2', ' ', 10, 9, 'c', 233, '-', '<', 'z');
        Check.due("run(0, 2)", x.run(0, 2), 2);
        Check.due("run(1, 2)", x.run(1, 2), 1);
        Check.due("run(2, 2)", x.run(2, 2), 0);
        Check.due("run(0, 6)", x.run(0, 6), 4);
        Check.due("run(0, 4)", x.run(0, 4), 0);
        Check.due("run(2, 4)", x.run(2, 4), 2);
        Check.due("run(4, 1)", x.run(4, 1), 3);
        Check.due("run(0, 7)", x.run(0, 7), 8);
        Check.due("run(0, 32)", x.run(0, 32), 6);
        Check.due("run(7, 8)", x.run(7, 8), 2);
        Check.due("run(7, 16)", x.run(7, 16), 3);
        Check.due("run(0, 63)", x.run(0, 63), 10);
        Check.due("run(10, 63)", x.run(10, 63), 0);
        Check.due("run(11, 63)", x.run(11, 63), 1);
        Check.due("run(0, 64)", x.run(0, 64), 0);
        Check.due("run(0, 64 + 2)", x.run(0, 64 + 2), 2);
        Check.due("run(0, ~63)", x.run(0, ~63), 0);
        Check.due("run(0, -1)", x.run(0, -1), 10);
        Check.due("run(0, least + 2)", x.run(0, Integer.MIN_VALUE + 2), 2);
        Check.due("run(0, 0)", x.run(0, 0), 0);
        Hand.dueText("run leaves the text", x, 'a', 'b', '1', '2', ' ', 10, 9, 'c', 233, '-', '<', 'z');
    }

    private static void runAtTheEdges() {
        SignReader x = new SignReader();
        Hand.addAll(x, 'a', 'b', 'c');
        Check.due("run(-1, 63)", x.run(-1, 63), 0);
        Check.due("run(least, 63)", x.run(Integer.MIN_VALUE, 63), 0);
        Check.due("run(3, 63)", x.run(3, 63), 0);
        Check.due("run(most, 63)", x.run(Integer.MAX_VALUE, 63), 0);
        Check.due("run(2, 63)", x.run(2, 63), 1);
        // A shorter text stands where a longer one did.
        Hand.bring(x, 'd');
        x.read();
        Check.due("run(0, 2) of the shorter text", x.run(0, 2), 1);
        Check.due("run(1, 2) of the shorter text", x.run(1, 2), 0);
        while (x.length() < 4096) {
            x.add('e');
        }
        Check.due("run(0, 2) of 4096", x.run(0, 2), 4096);
        Check.due("run(4095, 2) of 4096", x.run(4095, 2), 1);
        Check.due("run(4096, 2) of 4096", x.run(4096, 2), 0);
    }
}
