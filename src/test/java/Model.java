import java.io.ByteArrayOutputStream;
import java.nio.ByteBuffer;
import java.nio.charset.CharacterCodingException;
import java.nio.charset.Charset;
import java.nio.charset.CodingErrorAction;
import java.nio.charset.StandardCharsets;
import java.util.ArrayList;
import java.util.Arrays;
import java.util.List;
import java.util.regex.Pattern;

/** What the document asks, built on the Java library's own encodings. */
final class Model {
    private static final byte[][] MARKS = {
        {}, {(byte) 254, (byte) 255}, {(byte) 255, (byte) 254}, {(byte) 239, (byte) 187, (byte) 191}
    };
    private static final Charset[] CHARSETS = {
        StandardCharsets.UTF_8, StandardCharsets.UTF_16BE, StandardCharsets.UTF_16LE,
        StandardCharsets.UTF_8
    };

    private static final String START = "A-Za-z:_\\x{C0}-\\x{D6}\\x{D8}-\\x{F6}\\x{F8}-\\x{2FF}"
        + "\\x{370}-\\x{37D}\\x{37F}-\\x{1FFF}\\x{200C}\\x{200D}\\x{2070}-\\x{218F}"
        + "\\x{2C00}-\\x{2FEF}\\x{3001}-\\x{D7FF}\\x{F900}-\\x{FDCF}\\x{FDF0}-\\x{FFFD}"
        + "\\x{10000}-\\x{EFFFF}";
    private static final Pattern[] KINDS = {
        Pattern.compile("[ \\t\\r\\n]"),
        Pattern.compile("[A-Za-z]"),
        Pattern.compile("[0-9]"),
        Pattern.compile("[" + START + "]"),
        Pattern.compile("[" + START + "0-9.\\x{B7}\\x{300}-\\x{36F}\\x{203F}\\x{2040}-]"),
        Pattern.compile("[ \\nA-Za-z0-9'()+,./:=?;!*#@$_%-]"),
    };
    private static final Pattern CHARACTER = Pattern.compile(
        "[\\t\\n\\r\\x{20}-\\x{D7FF}\\x{E000}-\\x{FFFD}\\x{10000}-\\x{10FFFF}]");

    byte[] bytes = {};
    List<Integer> text = new ArrayList<>();
    int way = 0;

    int read() {
        byte[] all = bytes;
        bytes = new byte[0];
        int newWay = wayOf(all);
        List<Integer> numbers = new ArrayList<>();
        int at = MARKS[newWay].length;
        while (at < all.length) {
            int before = at;
            for (int size = 1; size <= 4 && at == before && at + size <= all.length; size++) {
                int c = one(Arrays.copyOfRange(all, at, at + size), CHARSETS[newWay]);
                if (isCharacter(c)) {
                    numbers.add(c);
                    at += size;
                }
            }
            if (at == before) {
                return at;
            }
        }
        text = linesMadeOne(numbers);
        way = newWay;
        return -1;
    }

    int write(int newWay) {
        if (newWay < 0 || newWay > 3) {
            return -1;
        }
        ByteArrayOutputStream out = new ByteArrayOutputStream();
        out.writeBytes(MARKS[newWay]);
        StringBuilder all = new StringBuilder();
        text.forEach(all::appendCodePoint);
        out.writeBytes(all.toString().getBytes(CHARSETS[newWay]));
        if (out.size() > 4096) {
            return -1;
        }
        bytes = out.toByteArray();
        return bytes.length;
    }

    int add(int c) {
        if (!isCharacter(c) || c == 13 || text.size() == 4096) {
            return -1;
        }
        text.add(c);
        return text.size();
    }

    boolean feed(int... five) {
        if (bytes.length + 20 > 4096) {
            return false;
        }
        ByteBuffer all = ByteBuffer.allocate(bytes.length + 20).put(bytes);
        for (int four : five) {
            all.putInt(four);
        }
        bytes = all.array();
        return true;
    }

    static int kinds(int c) {
        int kinds = 0;
        for (int k = 0; k < KINDS.length && isCharacter(c); k++) {
            kinds += KINDS[k].matcher(Character.toString(c)).matches() ? 1 << k : 0;
        }
        return kinds;
    }

    int run(int i, int kinds) {
        int many = 0;
        while (i >= 0 && i + many < text.size() && (kinds(text.get(i + many)) & kinds) != 0) {
            many++;
        }
        return many;
    }

    int came(int i) {
        return i >= 0 && i < bytes.length ? bytes[i] & 255 : -1;
    }

    int sign(int i) {
        return i >= 0 && i < text.size() ? text.get(i) : -1;
    }

    int change(int i, int b) {
        int before = came(i);
        if (before == -1 || b < 0 || b > 255) {
            return -1;
        }
        bytes[i] = (byte) b;
        return before;
    }

    /** How many bytes there were; -1 when the call must throw. */
    int end(int n) {
        int before = bytes.length;
        if (n < 0 || n > before) {
            return -1;
        }
        bytes = Arrays.copyOf(bytes, n);
        return before;
    }

    private static int wayOf(byte[] all) {
        for (int w = 1; w <= 3; w++) {
            int size = MARKS[w].length;
            if (all.length >= size && Arrays.equals(Arrays.copyOf(all, size), MARKS[w])) {
                return w;
            }
        }
        return 0;
    }

    /** The one character that the bytes are, all of them; -1 when they are not one. */
    private static int one(byte[] part, Charset charset) {
        try {
            String s = charset.newDecoder().onMalformedInput(CodingErrorAction.REPORT)
                .onUnmappableCharacter(CodingErrorAction.REPORT)
                .decode(ByteBuffer.wrap(part)).toString();
            return s.codePointCount(0, s.length()) == 1 ? s.codePointAt(0) : -1;
        } catch (CharacterCodingException e) {
            return -1;
        }
    }

    private static boolean isCharacter(int c) {
        return Character.isValidCodePoint(c)
            && CHARACTER.matcher(Character.toString(c)).matches();
    }

    private static List<Integer> linesMadeOne(List<Integer> numbers) {
        StringBuilder all = new StringBuilder();
        numbers.forEach(all::appendCodePoint);
        String lines = all.toString().replace("\r\n", "\n").replace('\r', '\n');
        List<Integer> made = new ArrayList<>();
        lines.codePoints().forEach(made::add);
        return made;
    }
}
