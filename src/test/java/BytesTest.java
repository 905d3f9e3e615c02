/** Promises 1 to 5: a new object, feed, end, change, came. */
public final class BytesTest {
    private static final int NONE = SignReader.NONE;

    public static void main(String[] args) {
        newObject();
        feed();
        feedUpToTheLimit();
        end();
        change();
        came();
        Check.finish();
    }

    private static void newObject() {
        Check.due("NONE", NONE, -1);
        SignReader x = new SignReader();
        Hand.dueBytes("new", x);
        Hand.dueText("new", x);
        Check.due("new: way()", x.way(), 0);
        Check.due("new: run(0, 63)", x.run(0, 63), 0);
        Check.due("new: end(0)", x.end(0), 0);
        Check.due("new: change(0, 1)", x.change(0, 1), NONE);
        Check.due("new: read()", x.read(), NONE);
        Check.due("new: write(0)", x.write(0), 0);
        SignReader other = new SignReader();
        Hand.addAll(x, 65);
        Hand.bring(x, 66);
        Hand.dueBytes("other object", other);
        Hand.dueText("other object", other);
    }

    private static void feed() {
        SignReader x = new SignReader();
        x.feed(0x01020304, 0xFFFEFDFC, 0x80000000, 0x7FFFFFFF, -1);
        Hand.dueBytes("feed", x,
            1, 2, 3, 4, 255, 254, 253, 252, 128, 0, 0, 0, 127, 255, 255, 255, 255, 255, 255, 255);
        x.feed(0, 0, 0, 0, 0xAB);
        Check.due("second feed: came(0)", x.came(0), 1);
        Check.due("second feed: came(20)", x.came(20), 0);
        Check.due("second feed: came(39)", x.came(39), 0xAB);
        Check.due("second feed: came(40)", x.came(40), NONE);
        Hand.dueText("feed leaves the text", x);
    }

    private static void feedUpToTheLimit() {
        SignReader x = new SignReader();
        for (int k = 0; k < 204; k++) {
            x.feed(k, k, k, k, k);
        }
        Check.dueThat("feed on 4080 bytes throws", Hand.feedThrows(x));
        Check.due("count after the throw", Hand.count(x), 4080);
        Check.due("last byte after the throw", x.came(4079), 203);
        x.end(4077);
        Check.dueThat("feed on 4077 bytes throws", Hand.feedThrows(x));
        Check.due("end(4076)", x.end(4076), 4077);
        Check.dueThat("feed on 4076 bytes is taken", !Hand.feedThrows(x));
        Check.due("end(4096)", x.end(4096), 4096);
        Check.due("came(4095)", x.came(4095), 5);
        Check.due("came(4096)", x.came(4096), NONE);
        Check.due("change(4096, 1)", x.change(4096, 1), NONE);
        Check.dueThat("end(4097) throws", Hand.endThrows(x, 4097));
        Check.dueThat("feed on 4096 bytes throws", Hand.feedThrows(x));
        Check.due("end(0)", x.end(0), 4096);
        Check.dueThat("feed on none is taken", !Hand.feedThrows(x));
        Check.due("end(20)", x.end(20), 20);
    }

    private static void end() {
        SignReader x = Hand.with(65, 66, 67, 68);
        Check.dueThat("end(5) of 4 throws", Hand.endThrows(x, 5));
        Check.dueThat("end(-1) throws", Hand.endThrows(x, -1));
        Check.dueThat("end(least) throws", Hand.endThrows(x, Integer.MIN_VALUE));
        Check.dueThat("end(most) throws", Hand.endThrows(x, Integer.MAX_VALUE));
        Hand.dueBytes("after the throws", x, 65, 66, 67, 68);
        Check.due("end(4)", x.end(4), 4);
        Check.due("end(2)", x.end(2), 4);
        Hand.dueBytes("end(2)", x, 65, 66);
        Check.dueThat("end(3) of 2 throws", Hand.endThrows(x, 3));
        Hand.bring(x, 70);
        Hand.dueBytes("fed behind the end", x, 65, 66, 70);
        Check.due("end(0)", x.end(0), 3);
        Hand.dueBytes("end(0)", x);
        Check.dueThat("end(1) of 0 throws", Hand.endThrows(x, 1));
    }

    private static void change() {
        SignReader x = Hand.with(65, 66, 255);
        Check.due("change(0, 255)", x.change(0, 255), 65);
        Check.due("change(2, 0)", x.change(2, 0), 255);
        Check.due("change(0, 97)", x.change(0, 97), 255);
        Check.due("change(1, 256)", x.change(1, 256), NONE);
        Check.due("change(1, -1)", x.change(1, -1), NONE);
        Check.due("change(1, least)", x.change(1, Integer.MIN_VALUE), NONE);
        Check.due("change(1, most)", x.change(1, Integer.MAX_VALUE), NONE);
        Check.due("change(3, 1)", x.change(3, 1), NONE);
        Check.due("change(-1, 1)", x.change(-1, 1), NONE);
        Check.due("change(least, 1)", x.change(Integer.MIN_VALUE, 1), NONE);
        Check.due("change(most, 1)", x.change(Integer.MAX_VALUE, 1), NONE);
        Hand.dueBytes("change", x, 97, 66, 0);
        x.change(2, 67);
        Check.due("read() of changed", x.read(), NONE);
        Hand.dueText("changed", x, 97, 66, 67);
        Check.due("change(0, 1) after read()", x.change(0, 1), NONE);
    }

    private static void came() {
        SignReader x = Hand.with(0, 255, 128);
        Hand.dueBytes("came", x, 0, 255, 128);
        Check.due("came(-1)", x.came(-1), NONE);
        Check.due("came(least)", x.came(Integer.MIN_VALUE), NONE);
        Check.due("came(most)", x.came(Integer.MAX_VALUE), NONE);
        x.end(1);
        Hand.dueBytes("came of ended", x, 0);
    }
}
