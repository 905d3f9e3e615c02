import java.util.Random;

/** Runs of 512 calls, the same ones each time, answered by the class and by the model alike. */
public final class ModelTest {
    private static final int RUNS = 400;
    private static final int CALLS = 512;
    private static final int[] EDGES = {
        9, 10, 13, 31, 32, 127, 128, 2047, 2048, 55295, 55296, 57343, 57344, 65279, 65533, 65534,
        65535, 65536, 1114111, 1114112, -1, 0
    };
    private static final int[] EDGE_BYTES = {
        0, 9, 10, 13, 32, 97, 127, 128, 143, 144, 159, 160, 187, 191, 192, 193, 194, 195, 216, 219,
        220, 223, 224, 237, 239, 240, 244, 245, 254, 255
    };

    private final Random random;
    private final SignReader x = new SignReader();
    private final Model model = new Model();
    private final String name;

    private ModelTest(int run) {
        random = new Random(run);
        name = "run " + run;
    }

    public static void main(String[] args) {
        for (int run = 0; run < RUNS; run++) {
            new ModelTest(run).go();
        }
        Check.finish();
    }

    private void go() {
        // Some runs hardly read, so that bytes and text come near their limits.
        int readsOneIn = 1 << random.nextInt(5);
        for (int k = 0; k < CALLS; k++) {
            int which = random.nextInt(10);
            if (which == 0 && random.nextInt(readsOneIn) == 0) {
                Check.due(name + ": read()", x.read(), model.read());
            } else if (which <= 3) {
                feed(readsOneIn);
            } else if (which == 4 && random.nextInt(readsOneIn) == 0) {
                end();
            } else if (which == 5) {
                change();
            } else if (which == 6) {
                int way = random.nextInt(6) - 1;
                if (random.nextInt(readsOneIn) == 0) {
                    Check.due(name + ": write(" + way + ")", x.write(way), model.write(way));
                }
            } else {
                int c = number();
                Check.due(name + ": add(" + c + ")", x.add(c), model.add(c));
            }
            lookAtSome();
        }
        lookAtAll();
    }

    private void feed(int readsOneIn) {
        int[] five = new int[5];
        boolean plain = random.nextInt(readsOneIn + 1) != 0;
        for (int k = 0; k < 20; k++) {
            int b = plain ? 97 + random.nextInt(26)
                : EDGE_BYTES[random.nextInt(EDGE_BYTES.length)];
            five[k / 4] = five[k / 4] << 8 | b;
        }
        boolean taken = true;
        try {
            x.feed(five[0], five[1], five[2], five[3], five[4]);
        } catch (IllegalStateException e) {
            taken = false;
        }
        Check.dueThat(name + ": feed", taken == model.feed(five));
    }

    private void end() {
        int n = model.bytes.length - random.nextInt(24) + 2;
        if (n < 0 || n > model.bytes.length) {
            Check.dueThat(name + ": end(" + n + ") throws", Hand.endThrows(x, n));
        } else {
            Check.due(name + ": end(" + n + ")", x.end(n), model.bytes.length);
            model.bytes = java.util.Arrays.copyOf(model.bytes, n);
        }
    }

    private void change() {
        int i = random.nextInt(model.bytes.length + 2) - 1;
        int b = random.nextInt(258) - 1;
        int want = -1;
        if (i >= 0 && i < model.bytes.length && b >= 0 && b <= 255) {
            want = model.bytes[i] & 255;
            model.bytes[i] = (byte) b;
        }
        Check.due(name + ": change(" + i + ", " + b + ")", x.change(i, b), want);
    }

    private int number() {
        int range = random.nextInt(4);
        if (range == 0) {
            return EDGES[random.nextInt(EDGES.length)];
        }
        return random.nextInt(range == 1 ? 300 : range == 2 ? 70000 : 1200000);
    }

    private void lookAtSome() {
        Check.due(name + ": length()", x.length(), model.text.size());
        Check.due(name + ": way()", x.way(), model.way);
        lookAtByte(random.nextInt(model.bytes.length + 2) - 1);
        lookAtByte(model.bytes.length - 1);
        lookAtByte(model.bytes.length);
        lookAtSign(random.nextInt(model.text.size() + 2) - 1);
        lookAtSign(model.text.size() - 1);
        lookAtSign(model.text.size());
        int i = random.nextInt(model.text.size() + 2) - 1;
        int kinds = random.nextInt();
        Check.due(name + ": run(" + i + ", " + kinds + ")", x.run(i, kinds), runOf(i, kinds));
    }

    private void lookAtAll() {
        for (int i = 0; i <= model.bytes.length; i++) {
            lookAtByte(i);
        }
        for (int i = 0; i <= model.text.size(); i++) {
            lookAtSign(i);
        }
    }

    private void lookAtByte(int i) {
        boolean there = i >= 0 && i < model.bytes.length;
        Check.due(name + ": came(" + i + ")", x.came(i), there ? model.bytes[i] & 255 : -1);
    }

    private void lookAtSign(int i) {
        boolean there = i >= 0 && i < model.text.size();
        Check.due(name + ": sign(" + i + ")", x.sign(i), there ? model.text.get(i) : -1);
    }

    private int runOf(int i, int kinds) {
        int many = 0;
        while (i >= 0 && i + many < model.text.size()
            && (x.kinds(model.text.get(i + many)) & kinds) != 0) {
            many++;
        }
        return many;
    }
}
