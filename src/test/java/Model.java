import java.io.ByteArrayOutputStream;
import java.nio.ByteBuffer;
import java.nio.charset.CharacterCodingException;
import java.nio.charset.Charset;
import java.nio.charset.CodingErrorAction;
import java.nio.charset.StandardCharsets;
import java.util.ArrayList;
import java.util.Arrays;
import java.util.List;

/** What the document asks, built on the Java library's own encodings. */
final class Model {
    private static final byte[][] MARKS = {
        {}, {(byte) 254, (byte) 255}, {(byte) 255, (byte) 254}, {(byte) 239, (byte) 187, (byte) 191}
    };
    private static final Charset[] CHARSETS = {
        StandardCharsets.UTF_8, StandardCharsets.UTF_16BE, StandardCharsets.UTF_16LE,
        StandardCharsets.UTF_8
    };

    byte[] bytes = {};
    List<Integer> text = new ArrayList<>();
    int way = 0;

    int read() {
        byte[] all = bytes;
        bytes = new byte[0];
        int newWay = wayOf(all);
        List<Integer> numbers = new ArrayList<>();
        int at = MARKS[newWay].length;
        while (at < all.length) {
            int before = at;
            for (int size = 1; size <= 4 && at == before && at + size <= all.length; size++) {
                int c = one(Arrays.copyOfRange(all, at, at + size), CHARSETS[newWay]);
                if (isCharacter(c)) {
                    numbers.add(c);
                    at += size;
                }
            }
            if (at == before) {
                return at;
            }
        }
        text = linesMadeOne(numbers);
        way = newWay;
        return -1;
    }

    int write(int newWay) {
        if (newWay < 0 || newWay > 3) {
            return -1;
        }
        ByteArrayOutputStream out = new ByteArrayOutputStream();
        out.writeBytes(MARKS[newWay]);
        StringBuilder all = new StringBuilder();
        text.forEach(all::appendCodePoint);
        out.writeBytes(all.toString().getBytes(CHARSETS[newWay]));
        if (out.size() > 4096) {
            return -1;
        }
        bytes = out.toByteArray();
        return bytes.length;
    }

    int add(int c) {
        if (!isCharacter(c) || c == 13 || text.size() == 4096) {
            return -1;
        }
        text.add(c);
        return text.size();
    }

    boolean feed(int... five) {
        if (bytes.length + 20 > 4096) {
            return false;
        }
        ByteBuffer all = ByteBuffer.allocate(bytes.length + 20).put(bytes);
        for (int four : five) {
            all.putInt(four);
        }
        bytes = all.array();
        return true;
    }

    private static int wayOf(byte[] all) {
        for (int w = 1; w <= 3; w++) {
            int size = MARKS[w].length;
            if (all.length >= size && Arrays.equals(Arrays.copyOf(all, size), MARKS[w])) {
                return w;
            }
        }
        return 0;
    }

    /** The one character that the bytes are, all of them; -1 when they are not one. */
    private static int one(byte[] part, Charset charset) {
        try {
            String s = charset.newDecoder().onMalformedInput(CodingErrorAction.REPORT)
                .onUnmappableCharacter(CodingErrorAction.REPORT)
                .decode(ByteBuffer.wrap(part)).toString();
            return s.codePointCount(0, s.length()) == 1 ? s.codePointAt(0) : -1;
        } catch (CharacterCodingException e) {
            return -1;
        }
    }

    private static boolean isCharacter(int c) {
        return Character.isValidCodePoint(c)
            && new String(Character.toChars(c)).matches(
                "[\\t\\n\\r\\x{20}-\\x{D7FF}\\x{E000}-\\x{FFFD}\\x{10000}-\\x{10FFFF}]");
    }

    private static List<Integer> linesMadeOne(List<Integer> numbers) {
        StringBuilder all = new StringBuilder();
        numbers.forEach(all::appendCodePoint);
        String lines = all.toString().replace("\r\n", "\n").replace('\r', '\n');
        List<Integer> made = new ArrayList<>();
        lines.codePoints().forEach(made::add);
        return made;
    }
}
