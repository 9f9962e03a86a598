/** Promises 32 to 36: kinds, asks, the trace, how many. */
public final class AskedTest {
    private static final String ALL = "y3,2,4;k9,2;k12,3;k20,5;p10;g5;n9;f20;";

    public static void main(String[] args) {
        Due.test("Asked: kinds", AskedTest::kinds);
        Due.test("Asked: as", AskedTest::as);
        Due.test("Asked: asks", AskedTest::asks);
        Due.test("Asked: traces", AskedTest::traces);
        Due.test("Asked: counts", AskedTest::counts);
        Due.end();
    }

    private static void kinds() {
        NineDown x = Due.told(Due.FIVE);
        int[] due = {1, 2, 3, 5};
        for (int one = 0; one < 4; one++) {
            Due.due("kind(" + one + ")", x.kind(one), due[one]);
        }
        Due.due("kind(4)", x.kind(4), Due.BAD);
        Due.due("kind(-1)", x.kind(-1), Due.BAD);
        Due.due("kind of one who goes", Due.told(ALL).kind(1), 4);
    }

    private static void as() {
        // for each kind as told, the kinds (bits) that it is, too
        int[] are = {0, 0b000011, 0b000111, 0b001011, 0b010001, 0b110001};
        NineDown x = Due.told("y3,2,4;k9,2;t1;f2;p3;g4;");
        NineDown y = Due.told("y3,2,4;k9,2;t1;f2;p3;n4;");
        for (int one = 0; one < 4; one++) {
            for (int kind = 0; kind <= 5; kind++) {
                boolean is = (are[one + 1] >> kind & 1) != 0;
                Due.due("as(" + one + ", " + kind + ")", x.as(one, kind), is ? one : Due.KIND);
            }
        }
        for (int kind = 0; kind <= 5; kind++) {
            Due.due("note as " + kind, y.as(3, kind), (are[5] >> kind & 1) != 0 ? 3 : Due.KIND);
        }
        Due.due("no lifter", x.as(4, 0), Due.BAD);
        Due.due("no lifter", x.as(-1, 0), Due.BAD);
        Due.due("no kind", x.as(0, 6), Due.BAD);
        Due.due("no kind", x.as(0, -1), Due.BAD);
        Due.due("it stays what it is", x.kind(1), 2);
    }

    private static void ask(NineDown x, int one, int what, int answer, int... bodies) {
        String call = "ask(" + one + ", " + what + ")";
        Due.due(call, x.ask(one, what), answer);
        for (int i = 0; i < bodies.length; i++) {
            Due.due("trace(" + i + ") of " + call, x.trace(i), bodies[i]);
        }
        Due.due("the end of the trace of " + call, x.trace(bodies.length), Due.NONE);
    }

    private static void asks() {
        NineDown x = Due.told(Due.FIVE);
        ask(x, 0, 0, 19, 11, 10, 21, 20);
        ask(x, 0, 1, 5, 21, 20);
        ask(x, 1, 0, -32, 12, 11, 10, 24, 21, 20);
        ask(x, 1, 1, 12, 24, 21, 20);
        ask(x, 2, 0, -983, 11, 10, 22, 21, 20);
        ask(x, 2, 1, -993, 22, 21, 20);
        ask(x, 3, 0, -182, 14, 13, 10);
        ask(x, 3, 1, 185, 23, 20, 14, 13, 10);
        x.lift(1, 0);
        ask(x, 0, 1, 4, 21, 20);
        NineDown y = Due.told(ALL);
        ask(y, 1, 0, -95, 13, 10);
        ask(y, 1, 1, 96, 23, 20, 13, 10);
        Due.due("no lifter", y.ask(4, 0), Due.BAD);
        Due.due("no lifter", y.ask(-1, 0), Due.BAD);
        Due.due("what", y.ask(0, 2), Due.BAD);
        Due.due("what", y.ask(0, -1), Due.BAD);
        Due.due("what is refused leaves the trace", y.trace(0), 23);
    }

    private static void traces() {
        NineDown x = Due.told(Due.FIVE);
        Due.due("none yet", x.trace(0), Due.NONE);
        x.ask(0, 1);
        Due.due("trace(-1)", x.trace(-1), Due.NONE);
        Due.due("trace(2)", x.trace(2), Due.NONE);
        Due.due("trace(16)", x.trace(16), Due.NONE);
        Due.due("trace least", x.trace(Integer.MIN_VALUE), Due.NONE);
    }

    private static void counts() {
        NineDown x = Due.told(Due.FIVE);
        x.row(3, 0, 0);
        x.row(6, 0, 7);
        x.lift(0, 0);
        x.loosen(2);
        x.fall(0);
        x.feed(1);
        x.feed(2);
        int[] due = {2, 5, 4, 4, 14, 2, 3, 2};
        for (int what = 0; what < 8; what++) {
            Due.due("count(" + what + ")", x.count(what), due[what]);
        }
        Due.due("count(8)", x.count(8), Due.BAD);
        Due.due("count(-1)", x.count(-1), Due.BAD);
    }
}
