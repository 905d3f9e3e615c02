/** A SignReader whose calls are counted: the document promises nothing behind the 512th. */
final class Counted {
    static final int MOST_CALLS = 512;

    private final SignReader x = new SignReader();
    private int calls = 0;

    int callsLeft() {
        return MOST_CALLS - calls;
    }

    private SignReader called() {
        if (calls == MOST_CALLS) {
            throw new AssertionError("a test may make 512 calls on an object, not more");
        }
        calls++;
        return x;
    }

    void feed(int a, int b, int c, int d, int e) {
        called().feed(a, b, c, d, e);
    }

    /** Whether feed throws IllegalStateException itself, no class below it. */
    boolean feedThrows(int a, int b, int c, int d, int e) {
        try {
            feed(a, b, c, d, e);
            return false;
        } catch (IllegalStateException thrown) {
            return thrown.getClass() == IllegalStateException.class;
        }
    }

    boolean feedThrows() {
        return feedThrows(0x01020304, 0x05060708, 0x090A0B0C, 0x0D0E0F10, 0x11121314);
    }

    int end(int n) {
        return called().end(n);
    }

    /** Whether end throws IllegalArgumentException itself, no class below it. */
    boolean endThrows(int n) {
        try {
            end(n);
            return false;
        } catch (IllegalArgumentException thrown) {
            return thrown.getClass() == IllegalArgumentException.class;
        }
    }

    int change(int i, int b) {
        return called().change(i, b);
    }

    int came(int i) {
        return called().came(i);
    }

    int read() {
        return called().read();
    }

    int length() {
        return called().length();
    }

    int sign(int i) {
        return called().sign(i);
    }

    int way() {
        return called().way();
    }

    int kinds(int c) {
        return called().kinds(c);
    }

    int run(int i, int kinds) {
        return called().run(i, kinds);
    }

    int write(int way) {
        return called().write(way);
    }

    int add(int c) {
        return called().add(c);
    }
}
