import java.util.Arrays;
import java.util.function.Supplier;

/** Makes objects in a wanted state, and looks at all that they hold, by public calls alone. */
final class Hand {
    static final int NONE = SignReader.NONE;
    static final int MOST = 4096;
    static final int LEAST_INT = Integer.MIN_VALUE;
    static final int MOST_INT = Integer.MAX_VALUE;

    /** Bytes that would complete a number if the class looked behind the last byte. */
    private static final int FILLING = 128;

    private Hand() {
    }

    static int[] row(int... numbers) {
        return numbers;
    }

    static int[] many(int count, int... numbers) {
        int[] all = new int[count * numbers.length];
        for (int k = 0; k < all.length; k++) {
            all[k] = numbers[k % numbers.length];
        }
        return all;
    }

    static int[] join(int[]... rows) {
        int[] all = {};
        for (int[] row : rows) {
            all = Arrays.copyOf(all, all.length + row.length);
            System.arraycopy(row, 0, all, all.length - row.length, row.length);
        }
        return all;
    }

    /** An object into which these bytes, and no other, came. */
    static Counted with(int... bytes) {
        Counted x = new Counted();
        bring(x, bytes);
        return x;
    }

    /** An object whose text was read from these bytes. */
    static Counted reading(int... bytes) {
        Counted x = with(bytes);
        Check.due("read() of bytes that are good", x.read(), NONE);
        return x;
    }

    /** The bytes come in, in place of what did. */
    static void bring(Counted x, int... bytes) {
        x.end(0);
        for (int from = 0; from < bytes.length; from += 20) {
            if (from + 20 > MOST) {
                from = MOST - 20;
                x.end(from);
            }
            feed(x, bytes, from);
        }
        x.end(bytes.length);
    }

    private static void feed(Counted x, int[] bytes, int from) {
        int[] five = new int[5];
        for (int k = 0; k < 20; k++) {
            int b = from + k < bytes.length ? bytes[from + k] : FILLING;
            five[k / 4] = five[k / 4] << 8 | b;
        }
        x.feed(five[0], five[1], five[2], five[3], five[4]);
    }

    static void addAll(Counted x, int... signs) {
        for (int c : signs) {
            x.add(c);
        }
    }

    static void dueBytes(String what, Counted x, int... bytes) {
        for (int i = 0; i < bytes.length; i++) {
            Check.due(what + ": came(" + i + ")", x.came(i), bytes[i]);
        }
        Check.due(what + ": came(" + bytes.length + ")", x.came(bytes.length), NONE);
    }

    static void dueText(String what, Counted x, int... signs) {
        Check.due(what + ": length()", x.length(), signs.length);
        for (int i = 0; i < signs.length; i++) {
            Check.due(what + ": sign(" + i + ")", x.sign(i), signs[i]);
        }
        Check.due(what + ": sign(" + signs.length + ")", x.sign(signs.length), NONE);
    }

    /**
     * All that an object holds. A full one takes more looks than it has calls left, so the object
     * is made anew, by the same calls, as often as that is needed.
     */
    static void dueState(String what, Supplier<Counted> made, int way, int[] signs, int[] bytes) {
        Counted x = made.get();
        Check.due(what + ": way()", x.way(), way);
        Check.due(what + ": length()", x.length(), signs.length);
        for (int i = 0; i <= signs.length; i++) {
            x = x.callsLeft() > 0 ? x : made.get();
            int want = i < signs.length ? signs[i] : NONE;
            Check.due(what + ": sign(" + i + ")", x.sign(i), want);
        }
        for (int i = 0; i <= bytes.length; i++) {
            x = x.callsLeft() > 0 ? x : made.get();
            int want = i < bytes.length ? bytes[i] : NONE;
            Check.due(what + ": came(" + i + ")", x.came(i), want);
        }
        x = x.callsLeft() > 0 ? x : made.get();
        Check.due(what + ": end(0)", x.end(0), bytes.length);
    }

    /** These bytes are read, and become this text, in place of another one. */
    static void dueTaken(String what, int way, int[] signs, int... bytes) {
        dueState(what, () -> {
            Counted x = reading(other(way));
            bring(x, bytes);
            Check.due(what + ": read()", x.read(), NONE);
            return x;
        }, way, signs, row());
    }

    /** These bytes are refused at a place, and the text, and its way, stay. */
    static void dueRefused(int place, int... bytes) {
        String what = Arrays.toString(bytes.length > 20 ? Arrays.copyOf(bytes, 20) : bytes);
        dueState(what, () -> {
            Counted x = reading(254, 255, 0, 88, 0, 89);
            bring(x, bytes);
            Check.due(what + ": read()", x.read(), place);
            return x;
        }, 1, row(88, 89), row());
    }

    /** Bytes of another way than this one, so that a way that only stays is seen. */
    private static int[] other(int way) {
        return way == 1 ? row(255, 254, 88, 0) : row(254, 255, 0, 88, 0, 89);
    }
}
