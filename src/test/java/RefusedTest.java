import java.util.function.Consumer;
import java.util.function.Supplier;

/** A call that throws, or is refused, changes nothing; and neither does one that only looks. */
public final class RefusedTest {
    private static final int NONE = Hand.NONE;
    private static final int[] NUMBERS = {-1, 4096, 4097, Hand.LEAST_INT, Hand.MOST_INT};

    public static void main(String[] args) {
        Check.sentence("changes nothing: a feed that throws", RefusedTest::feed);
        Check.sentence("changes nothing: an end that throws", RefusedTest::end);
        Check.sentence("changes nothing: a change of none such", RefusedTest::changeNoneSuch);
        Check.sentence("changes nothing: a change to no byte", RefusedTest::changeToNoByte);
        Check.sentence("changes nothing: a write in no such way", RefusedTest::writeNoSuchWay);
        Check.sentence("changes nothing: a write of too many", RefusedTest::writeTooMany);
        Check.sentence("changes nothing: an add of no character", RefusedTest::addNoCharacter);
        Check.sentence("changes nothing: an add of 13", () -> dueNothing("add(13)", x ->
            Check.due("add(13)", x.add(13), NONE)));
        Check.sentence("changes nothing: an add to 4096", RefusedTest::addToMost);
        Check.sentence("changes nothing: a call that only looks", RefusedTest::looks);
        Check.finish();
    }

    /** In an object that holds nothing, in one that holds a little, and in one that is full. */
    private static void dueNothing(String what, Consumer<Counted> call) {
        Hand.dueState(what + ", holding nothing", () -> called(Counted::new, call), 0,
            Hand.row(), Hand.row());
        Hand.dueState(what + ", holding a little", () -> called(RefusedTest::little, call), 2,
            Hand.row(97, 10, 8364), Hand.row(1, 2, 3));
        Hand.dueState(what + ", full", () -> called(RefusedTest::full, call), 0,
            Hand.many(4096, 97), Hand.many(4096, 97));
    }

    private static Counted called(Supplier<Counted> made, Consumer<Counted> call) {
        Counted x = made.get();
        call.accept(x);
        return x;
    }

    private static Counted little() {
        Counted x = Hand.reading(255, 254, 97, 0, 13, 0);
        x.add(8364);
        Hand.bring(x, 1, 2, 3);
        return x;
    }

    private static Counted full() {
        Counted x = Hand.reading(Hand.many(4096, 97));
        x.write(0);
        return x;
    }

    private static void feed() {
        for (int n : new int[] {4077, 4080, 4096}) {
            int[] bytes = Hand.many(n, 98);
            Hand.dueState("feed on " + n, () -> {
                Counted x = Hand.reading(254, 255, 0, 97);
                Hand.bring(x, bytes);
                Check.dueThat("feed on " + n + " throws", x.feedThrows());
                return x;
            }, 1, Hand.row(97), bytes);
        }
    }

    private static void end() {
        for (int n : NUMBERS) {
            if (n != 4096) {
                dueNothing("end(" + n + ")", x ->
                    Check.dueThat("end(" + n + ") throws", x.endThrows(n)));
            }
        }
        Hand.dueState("end(4) of 3", () -> called(RefusedTest::little, x ->
            Check.dueThat("end(4) throws", x.endThrows(4))), 2, Hand.row(97, 10, 8364),
            Hand.row(1, 2, 3));
        Hand.dueState("end(1) of none", () -> called(Counted::new, x ->
            Check.dueThat("end(1) throws", x.endThrows(1))), 0, Hand.row(), Hand.row());
    }

    private static void changeNoneSuch() {
        for (int i : NUMBERS) {
            dueNothing("change(" + i + ", 5)", x ->
                Check.due("change(" + i + ", 5)", x.change(i, 5), NONE));
        }
        Counted x = little();
        Check.due("change(3, 5) of 3", x.change(3, 5), NONE);
        x.feed(0, 0, 0, 0, 0);
        Check.due("byte 3, fed after a refused change", x.came(3), 0);
        x.end(3);
        Check.due("change(4, 5) of 3", x.change(4, 5), NONE);
        Hand.dueState("change behind the last", () -> x, 2, Hand.row(97, 10, 8364),
            Hand.row(1, 2, 3));
    }

    private static void changeToNoByte() {
        for (int b : new int[] {-1, 256, Hand.LEAST_INT, Hand.MOST_INT}) {
            dueNothing("change(0, " + b + ")", x ->
                Check.due("change(0, " + b + ")", x.change(0, b), NONE));
        }
    }

    private static void writeNoSuchWay() {
        for (int way : new int[] {-1, 4, Hand.LEAST_INT, Hand.MOST_INT}) {
            dueNothing("write(" + way + ")", x ->
                Check.due("write(" + way + ")", x.write(way), NONE));
        }
    }

    private static void writeTooMany() {
        for (int way = 1; way <= 3; way++) {
            int tried = way;
            Hand.dueState("write(" + way + ") of a full text", () -> called(RefusedTest::full, x ->
                Check.due("write(" + tried + ")", x.write(tried), NONE)), 0,
                Hand.many(4096, 97), Hand.many(4096, 97));
        }
    }

    private static void addNoCharacter() {
        for (int c : new int[] {0, 31, 55296, 57343, 65534, 1114112, -1, Hand.LEAST_INT}) {
            dueNothing("add(" + c + ")", x -> Check.due("add(" + c + ")", x.add(c), NONE));
        }
    }

    private static void addToMost() {
        for (int c : new int[] {97, 10, 1114111}) {
            Hand.dueState("add(" + c + ") to 4096", () -> called(RefusedTest::full, x ->
                Check.due("add(" + c + ")", x.add(c), NONE)), 0,
                Hand.many(4096, 97), Hand.many(4096, 97));
        }
    }

    private static void looks() {
        for (int i : NUMBERS) {
            dueNothing("looks at " + i, x -> {
                Check.due("came(" + i + ")", x.came(i), NONE);
                Check.due("sign(" + i + ")", x.sign(i), NONE);
                Check.due("run(" + i + ", 63)", x.run(i, 63), 0);
                Check.due("kinds(" + i + ")", x.kinds(i), i == 4096 || i == 4097 ? 8 + 16 : 0);
            });
        }
        dueNothing("looks at 0", x -> {
            x.came(0);
            x.sign(0);
            x.run(0, -1);
            x.kinds(97);
            x.length();
            x.way();
        });
    }
}
