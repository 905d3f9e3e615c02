import java.util.Random;

/** Runs of 512 calls, the same ones each time, answered by the class and by the model alike. */
public final class ModelTest {
    private static final int RUNS = 1200;
    private static final int[] EDGES = {
        9, 10, 13, 31, 32, 127, 128, 2047, 2048, 55295, 55296, 57343, 57344, 65279, 65533, 65534,
        65535, 65536, 1114111, 1114112, -1, 0
    };
    private static final int[] EDGE_BYTES = {
        0, 9, 10, 13, 32, 97, 127, 128, 143, 144, 159, 160, 187, 191, 192, 193, 194, 195, 216, 219,
        220, 223, 224, 237, 239, 240, 244, 245, 254, 255
    };

    private final Random random;
    private final Counted x = new Counted();
    private final Model model = new Model();
    private final String name;
    /** The more, the fewer are the calls that make bytes or text fewer. */
    private final int patience;

    private ModelTest(int run) {
        random = new Random(run);
        name = "run " + run;
        patience = 1 << random.nextInt(5);
    }

    public static void main(String[] args) {
        for (int run = 0; run < RUNS; run++) {
            new ModelTest(run).go();
        }
        Check.finish();
    }

    private void go() {
        if (random.nextInt(4) == 0) {
            comeNearTheLimit();
        }
        while (x.callsLeft() > 0) {
            if (random.nextInt(3) == 0) {
                look();
            } else {
                act();
            }
        }
    }

    private void comeNearTheLimit() {
        for (int k = 0; k < 203; k++) {
            feed(0x61616161, 0x61616161, 0x61616161, 0x61616161, 0x61616161);
        }
        int mark = random.nextInt(4);
        if (mark == 1) {
            change(0, 254);
            change(1, 255);
        } else if (mark == 2) {
            change(0, 255);
            change(1, 254);
        }
        if (random.nextBoolean()) {
            Check.due(name + ": read()", x.read(), model.read());
        }
    }

    private void act() {
        int which = random.nextInt(10);
        boolean patient = random.nextInt(patience) != 0;
        if (which == 0 && !patient) {
            Check.due(name + ": read()", x.read(), model.read());
        } else if (which <= 2) {
            feedSome();
        } else if (which == 3 && !patient) {
            end(model.bytes.length - random.nextInt(24) + 2);
        } else if (which == 4) {
            change(random.nextInt(model.bytes.length + 2) - 1, random.nextInt(258) - 1);
        } else if (which == 5 && !patient) {
            int way = random.nextInt(6) - 1;
            Check.due(name + ": write(" + way + ")", x.write(way), model.write(way));
        } else {
            int c = number();
            Check.due(name + ": add(" + c + ")", x.add(c), model.add(c));
        }
    }

    private void feedSome() {
        int[] five = new int[5];
        boolean plain = random.nextInt(patience + 1) != 0;
        for (int k = 0; k < 20; k++) {
            int b = plain ? 97 + random.nextInt(26)
                : EDGE_BYTES[random.nextInt(EDGE_BYTES.length)];
            five[k / 4] = five[k / 4] << 8 | b;
        }
        feed(five);
    }

    private void feed(int... five) {
        boolean throwing = x.feedThrows(five[0], five[1], five[2], five[3], five[4]);
        Check.dueThat(name + ": feed", throwing != model.feed(five));
    }

    private void end(int n) {
        int want = model.end(n);
        if (want == -1) {
            Check.dueThat(name + ": end(" + n + ") throws", x.endThrows(n));
        } else {
            Check.due(name + ": end(" + n + ")", x.end(n), want);
        }
    }

    private void change(int i, int b) {
        Check.due(name + ": change(" + i + ", " + b + ")", x.change(i, b), model.change(i, b));
    }

    private int number() {
        int range = random.nextInt(4);
        if (range == 0) {
            return EDGES[random.nextInt(EDGES.length)];
        }
        return random.nextInt(range == 1 ? 300 : range == 2 ? 70000 : 1200000);
    }

    private void look() {
        switch (random.nextInt(6)) {
            case 0 -> Check.due(name + ": length()", x.length(), model.text.size());
            case 1 -> Check.due(name + ": way()", x.way(), model.way);
            case 2 -> {
                int i = placeIn(model.bytes.length);
                Check.due(name + ": came(" + i + ")", x.came(i), model.came(i));
            }
            case 3 -> {
                int i = placeIn(model.text.size());
                Check.due(name + ": sign(" + i + ")", x.sign(i), model.sign(i));
            }
            case 4 -> {
                int i = placeIn(model.text.size());
                int kinds = random.nextInt();
                Check.due(name + ": run(" + i + ", " + kinds + ")", x.run(i, kinds),
                    model.run(i, kinds));
            }
            default -> {
                int c = number();
                Check.due(name + ": kinds(" + c + ")", x.kinds(c), Model.kinds(c));
            }
        }
    }

    /** A place in a row, or beside its first or its last one, and often one of these. */
    private int placeIn(int length) {
        int place = random.nextInt(4);
        return place == 0 ? length : place == 1 ? length - 1 : random.nextInt(length + 2) - 1;
    }
}
