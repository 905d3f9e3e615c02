/** The way of a row of bytes, and promise 9: way. */
public final class WayTest {
    public static void main(String[] args) {
        Check.sentence("THE WAY: 1, if it begins with 254, 255", WayTest::higherFirst);
        Check.sentence("THE WAY: 2, if it begins with 255, 254", WayTest::lowerFirst);
        Check.sentence("THE WAY: 3, if it begins with 239, 187, 191", WayTest::marked);
        Check.sentence("THE WAY: 0, 8 bits, otherwise", WayTest::otherwise);
        Check.sentence("THE WAY: it begins with", WayTest::beginsWith);
        Check.sentence("THE WAY: (these first ones are taken off)", WayTest::takenOff);
        Check.sentence("9: The way in which the text was read", WayTest::wayOfTheText);
        Check.sentence("9: 0 before", WayTest::zeroBefore);
        Check.finish();
    }

    private static void higherFirst() {
        Hand.dueTaken("254 255", 1, Hand.row(), 254, 255);
        Hand.dueTaken("254 255 32 172", 1, Hand.row(8364), 254, 255, 32, 172);
        Hand.dueRefused(0, 254);
        Hand.dueRefused(0, 254, 254);
        Hand.dueRefused(0, 254, 0, 255);
        Hand.dueRefused(0, 253, 255, 0, 97);
    }

    private static void lowerFirst() {
        Hand.dueTaken("255 254", 2, Hand.row(), 255, 254);
        Hand.dueTaken("255 254 172 32", 2, Hand.row(8364), 255, 254, 172, 32);
        Hand.dueRefused(0, 255);
        Hand.dueRefused(0, 255, 255);
        Hand.dueRefused(0, 255, 253, 97, 0);
    }

    private static void marked() {
        Hand.dueTaken("239 187 191", 3, Hand.row(), 239, 187, 191);
        Hand.dueTaken("239 187 191 226 130 172", 3, Hand.row(8364), 239, 187, 191, 226, 130, 172);
        Hand.dueRefused(0, 239);
        Hand.dueRefused(0, 239, 187);
        Hand.dueTaken("239 187 190", 0, Hand.row(0xFEFE), 239, 187, 190);
        Hand.dueTaken("239 186 191", 0, Hand.row(0xFEBF), 239, 186, 191);
        Hand.dueTaken("238 187 191", 0, Hand.row(0xEEFF), 238, 187, 191);
        Hand.dueRefused(0, 239, 187, 192);
    }

    private static void otherwise() {
        Hand.dueTaken("no bytes", 0, Hand.row());
        Hand.dueTaken("97", 0, Hand.row(97), 97);
        Hand.dueTaken("97 98, no 16 bits", 0, Hand.row(97, 98), 97, 98);
        Hand.dueRefused(0, 0, 97);
    }

    private static void beginsWith() {
        Hand.dueTaken("239 187 191 behind 97", 0, Hand.row(97, 65279), 97, 239, 187, 191);
        Hand.dueRefused(1, 97, 254, 255);
        Hand.dueRefused(1, 97, 255, 254);
        int[][] marks = {{254, 255}, {255, 254}, {239, 187, 191}};
        for (int[] mark : marks) {
            // What stands behind the last byte does not make the mark whole.
            Counted x = Hand.with(mark);
            x.end(mark.length - 1);
            Check.due("a mark that ended early: read()", x.read(), 0);
            Check.due("a mark that ended early: way()", x.way(), 0);
        }
        Counted changed = Hand.with(97, 97, 97, 98);
        changed.change(0, 254);
        changed.change(1, 255);
        changed.read();
        Check.due("a mark made by change: way()", changed.way(), 1);
        Hand.dueText("a mark made by change", changed, 0x6162);
    }

    private static void takenOff() {
        Hand.dueTaken("mark 1 twice", 1, Hand.row(65279), 254, 255, 254, 255);
        Hand.dueTaken("mark 2 twice", 2, Hand.row(65279), 255, 254, 255, 254);
        Hand.dueTaken("mark 3 twice", 3, Hand.row(65279), 239, 187, 191, 239, 187, 191);
        Hand.dueRefused(2, 254, 255, 255, 254);
        Hand.dueRefused(2, 255, 254, 254, 255);
        Hand.dueRefused(3, 239, 187, 191, 254, 255);
        Hand.dueRefused(3, 239, 187, 191, 255, 254);
        Hand.dueTaken("mark 3 in 16 bits", 1, Hand.row(0xEFBB, 0xBF61),
            254, 255, 239, 187, 191, 97);
    }

    private static void wayOfTheText() {
        int[][] rows = {{97}, {254, 255, 0, 97}, {255, 254, 97, 0}, {239, 187, 191, 97}};
        for (int before = 0; before < 4; before++) {
            for (int way = 0; way < 4; way++) {
                Counted x = Hand.reading(rows[before]);
                Hand.bring(x, rows[way]);
                Check.due("way() before read()", x.way(), before);
                x.read();
                Check.due("way() after way " + before, x.way(), way);
                x.add(98);
                Check.due("way() after add", x.way(), way);
                x.write(before);
                Check.due("way() after write(" + before + ")", x.way(), way);
                x.end(0);
                Check.due("way() after end(0)", x.way(), way);
                x.read();
                Check.due("way() of the text of no bytes", x.way(), 0);
            }
        }
    }

    private static void zeroBefore() {
        Check.due("new: way()", new Counted().way(), 0);
        Counted x = new Counted();
        x.add(97);
        Check.due("added: way()", x.way(), 0);
        x.write(1);
        Check.due("written: way()", x.way(), 0);
        Hand.bring(x, 254, 255, 0);
        Check.due("refused: read()", x.read(), 2);
        Check.due("refused: way()", x.way(), 0);
    }
}
