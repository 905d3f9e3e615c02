/** Brings bytes into a SignReader, and looks at what it holds, by its public calls alone. */
final class Hand {
    private Hand() {
    }

    static SignReader with(int... bytes) {
        SignReader x = new SignReader();
        bring(x, bytes);
        return x;
    }

    /** The bytes come behind those that came in; there must be room for the last twenty. */
    static void bring(SignReader x, int... bytes) {
        for (int from = 0; from < bytes.length; from += 20) {
            int[] five = new int[5];
            for (int k = 0; k < 20; k++) {
                int b = from + k < bytes.length ? bytes[from + k] : 0;
                five[k / 4] |= b << (24 - k % 4 * 8);
            }
            x.feed(five[0], five[1], five[2], five[3], five[4]);
            int left = bytes.length - from;
            if (left < 20) {
                x.end(count(x) - 20 + left);
            }
        }
    }

    static void addAll(SignReader x, int... signs) {
        for (int c : signs) {
            x.add(c);
        }
    }

    static int count(SignReader x) {
        int n = 0;
        while (x.came(n) != SignReader.NONE) {
            n++;
        }
        return n;
    }

    static void dueBytes(String what, SignReader x, int... bytes) {
        for (int i = 0; i < bytes.length; i++) {
            Check.due(what + ": came(" + i + ")", x.came(i), bytes[i]);
        }
        Check.due(what + ": came(" + bytes.length + ")", x.came(bytes.length), SignReader.NONE);
    }

    static void dueText(String what, SignReader x, int... signs) {
        Check.due(what + ": length()", x.length(), signs.length);
        for (int i = 0; i < signs.length; i++) {
            Check.due(what + ": sign(" + i + ")", x.sign(i), signs[i]);
        }
        Check.due(what + ": sign(" + signs.length + ")", x.sign(signs.length), SignReader.NONE);
    }

    static boolean feedThrows(SignReader x) {
        try {
            x.feed(1, 2, 3, 4, 5);
            return false;
        } catch (IllegalStateException e) {
            return e.getClass() == IllegalStateException.class;
        }
    }

    static boolean endThrows(SignReader x, int n) {
        try {
            x.end(n);
            return false;
        } catch (IllegalArgumentException e) {
            return e.getClass() == IllegalArgumentException.class;
        }
    }
}
