/** Boundary cases of promises 1 to 5, and 37 as far as rows go: each sentence by itself. */
public final class EdgeRowsTest {
    /** One bike, which leant either way goes down alone: first() answers 257 where an ITEM is 1, else 0. */
    private static final String ONE = "y1,0,0;k1,1;t9;";
    private static final int MOST = Integer.MAX_VALUE, LEAST = Integer.MIN_VALUE;

    public static void main(String[] args) {
        newObject();
        row();
        rowInPlace();
        set();
        setLanes();
        copy();
        copyPlaces();
        copyOrder();
        drop();
        statusNumbers();
        statusStays();
        statusClears();
        Due.end();
    }

    /** An object with row 0 of n items, each 1, and a yard of one bike. */
    private static NineDown ones(int lane, int n) {
        NineDown x = Due.told(ONE);
        int[] items = new int[n];
        java.util.Arrays.fill(items, 1);
        Due.fill(x, 0, lane, items);
        return x;
    }

    private static void items(NineDown x, int row, int... want) {
        for (int i = 0; i < want.length; i++) {
            Due.due("whether item " + i + " of row " + row + " is 1", x.first(row, i), want[i] == 1 ? 257 : 0);
        }
    }

    private static void newObject() {
        Due.one("P1 new: no YARD, stand", "", x -> x.stand(0), Due.STATE);
        Due.one("P1 new: no YARD, no BIKES", "", x -> x.count(1), 0);
        Due.one("P1 new: no YARD, no holds", "", x -> x.count(2), 0);
        Due.one("P1 new: no YARD, no LIFTERS", "", x -> x.count(3), 0);
        Due.one("P1 new: no SECONDS", "", x -> x.count(4), 0);
        Due.one("P1 new: no FALLS", "", x -> x.count(5), 0);
        Due.one("P1 new: no ACT, count", "", x -> x.count(6), 0);
        Due.one("P1 new: no ACT, undo", "", x -> x.undo(), Due.STATE);
        Due.one("P1 new: no byte on the tape", "", x -> x.count(7), 0);
        Due.one("P1 new: the first byte", "", x -> x.feed('y'), 1);
        Due.one("P1 new: no ROW is there", "", x -> x.count(0), 0);
        for (int r = 0; r < 8; r++) {
            int row = r;
            Due.one("P1 new: ROW " + r + " is missing", "", x -> x.drop(row), Due.NULL);
        }
        Due.one("P1 new: no IMAGE 0", "", x -> x.restore(0), Due.STATE);
        Due.one("P1 new: no IMAGE 1", "", x -> x.restore(1), Due.STATE);
        Due.one("P1 new: THE TRACE is empty", "", x -> x.trace(0), Due.NONE);
        Due.one("P8 fault: 0 before one", "", x -> x.fault(), 0);
        Due.one("P37 status: 0, there was none", "", x -> x.status(), 0);
    }

    private static void row() {
        Due.one("P2 row: ROW 0, the first", "", x -> x.row(0, 0, 3), 3);
        Due.one("P2 row: ROW 7, the last", "", x -> x.row(7, 0, 3), 3);
        Due.one("P2 row: ROW -1 is BAD", "", x -> x.row(-1, 0, 3), Due.BAD);
        Due.one("P2 row: ROW 8 is BAD", "", x -> x.row(8, 0, 3), Due.BAD);
        Due.one("P2 row: the least ROW is BAD", "", x -> x.row(LEAST, 0, 3), Due.BAD);
        Due.one("P2 row: the greatest ROW is BAD", "", x -> x.row(MOST, 0, 3), Due.BAD);
        Due.one("P2 row: LANE 0", "", x -> x.row(3, 0, 3), 3);
        Due.one("P2 row: LANE 2", "", x -> x.row(3, 2, 3), 3);
        Due.one("P2 row: LANE -1 is BAD", "", x -> x.row(3, -1, 3), Due.BAD);
        Due.one("P2 row: LANE 3 is BAD", "", x -> x.row(3, 3, 3), Due.BAD);
        Due.one("P2 row: n 0, an empty one", "", x -> x.row(3, 0, 0), 0);
        Due.one("P2 row: n 40, the most", "", x -> x.row(3, 0, 40), 40);
        Due.one("P2 row: n 41 is BAD", "", x -> x.row(3, 0, 41), Due.BAD);
        Due.one("P2 row: the greatest n is BAD", "", x -> x.row(3, 0, MOST), Due.BAD);
        Due.one("P2 row: n -1 is SIZE", "", x -> x.row(3, 0, -1), Due.SIZE);
        Due.one("P2 row: the least n is SIZE", "", x -> x.row(3, 0, LEAST), Due.SIZE);
        Due.one("P2 row: BAD of a ROW ahead of SIZE", "", x -> x.row(8, 0, -1), Due.BAD);
        Due.one("P2 row: BAD of a LANE ahead of SIZE", "", x -> x.row(3, 3, -1), Due.BAD);
        Due.test("P2 row: an empty one is there", () -> {
            NineDown x = new NineDown();
            x.row(3, 0, 0);
            Due.due("count(0)", x.count(0), 1);
            Due.due("no place 0", x.set(3, 0, 1), Due.PLACE);
            Due.due("drop", x.drop(3), 0);
        });
        Due.test("P2 row: all eight can be there", () -> {
            NineDown x = new NineDown();
            for (int r = 0; r < 8; r++) {
                Due.due("row", x.row(r, 2, r), r);
            }
            Due.due("count(0)", x.count(0), 8);
            for (int r = 0; r < 8; r++) {
                Due.due("drop", x.drop(r), r);
            }
        });
        Due.test("P2 row: SIZE makes none", () -> {
            NineDown x = new NineDown();
            Due.due("row", x.row(3, 0, -1), Due.SIZE);
            Due.due("count(0)", x.count(0), 0);
            Due.due("missing", x.drop(3), Due.NULL);
        });
    }

    private static void rowInPlace() {
        Due.test("part 1: ITEMS are 0 at first", () -> {
            NineDown x = Due.told("y1,0,0;k1,1;k1,1;t9;");
            Due.due("row", x.row(0, 0, 40), 40);
            for (int i = 0; i < 40; i++) {
                // a plan of 0 is lifter 0 with bike 0, which can be
                Due.due("item " + i, x.plan(0, i, 1, 0), 1);
                Due.due("set of item " + i, x.set(0, i, 3), 3);
                Due.due("now it is 3: no such bike", x.plan(0, i, 1, 0), 0);
            }
        });
        Due.test("P2 row: in place of what is there, ITEMS are 0 anew", () -> {
            NineDown x = ones(0, 5);
            Due.due("row", x.row(0, 0, 5), 5);
            items(x, 0, 0, 0, 0, 0, 0);
            Due.due("count(0)", x.count(0), 1);
        });
        Due.test("P2 row: fewer ITEMS, in place of more", () -> {
            NineDown x = ones(0, 5);
            Due.due("row", x.row(0, 0, 2), 2);
            Due.due("the last place", x.set(0, 1, 1), 1);
            Due.due("no place 2", x.set(0, 2, 1), Due.PLACE);
        });
        Due.test("P2 row: fewer, then more again: ITEMS are 0", () -> {
            NineDown x = ones(0, 5);
            x.row(0, 0, 2);
            x.row(0, 0, 5);
            items(x, 0, 0, 0, 0, 0, 0);
        });
        Due.test("P2 row: dropped, then there again: ITEMS are 0", () -> {
            NineDown x = ones(0, 5);
            x.drop(0);
            x.row(0, 0, 5);
            items(x, 0, 0, 0, 0, 0, 0);
        });
        Due.test("P2 row: another LANE in place", () -> {
            NineDown x = ones(0, 5);
            x.row(0, 1, 5);
            Due.due("a short", x.set(0, 0, 300), 300);
            x.row(0, 0, 5);
            Due.due("a byte", x.set(0, 0, 300), 44);
        });
        Due.test("P2 row: another ROW stays", () -> {
            NineDown x = ones(0, 2);
            x.row(1, 0, 2);
            items(x, 0, 1, 1);
        });
        Due.test("P2 row: SIZE leaves the one that is there", () -> {
            NineDown x = ones(0, 3);
            Due.due("row", x.row(0, 2, -1), Due.SIZE);
            items(x, 0, 1, 1, 1);
            Due.due("its LANE", x.set(0, 0, 300), 44);
            Due.due("its ITEMS", x.drop(0), 3);
        });
        Due.test("P2 row: BAD leaves the one that is there", () -> {
            NineDown x = ones(0, 3);
            Due.due("n", x.row(0, 2, 41), Due.BAD);
            Due.due("LANE", x.row(0, 3, 1), Due.BAD);
            items(x, 0, 1, 1, 1);
            Due.due("its LANE", x.set(0, 0, 300), 44);
            Due.due("its ITEMS", x.drop(0), 3);
        });
    }

    private static void set() {
        Due.one("P3 set: ROW -1 is BAD", "", x -> x.set(-1, 0, 1), Due.BAD);
        Due.one("P3 set: ROW 8 is BAD", "", x -> x.set(8, 0, 1), Due.BAD);
        Due.one("P3 set: a ROW that is missing is NULL", "", x -> x.set(7, 0, 1), Due.NULL);
        Due.one("P3 set: NULL ahead of PLACE", "", x -> x.set(7, -1, 1), Due.NULL);
        Due.test("P3 set: place 0, the first", () -> Due.due("set", ones(0, 3).set(0, 0, 5), 5));
        Due.test("P3 set: place n - 1, the last", () -> Due.due("set", ones(0, 3).set(0, 2, 5), 5));
        Due.test("P3 set: place -1", () -> Due.due("set", ones(0, 3).set(0, -1, 5), Due.PLACE));
        Due.test("P3 set: place n", () -> Due.due("set", ones(0, 3).set(0, 3, 5), Due.PLACE));
        Due.test("P3 set: place 40 of 40", () -> Due.due("set", ones(0, 40).set(0, 40, 5), Due.PLACE));
        Due.test("P3 set: place 39 of 40", () -> Due.due("set", ones(0, 40).set(0, 39, 5), 5));
        Due.test("P3 set: the least place", () -> Due.due("set", ones(0, 3).set(0, LEAST, 5), Due.PLACE));
        Due.test("P3 set: the greatest place", () -> Due.due("set", ones(0, 3).set(0, MOST, 5), Due.PLACE));
        Due.test("P3 set: no place in an empty ROW", () -> Due.due("set", ones(0, 0).set(0, 0, 5), Due.PLACE));
        Due.test("P3 set: only ITEM i becomes v", () -> {
            NineDown x = ones(0, 4);
            x.set(0, 2, 0);
            items(x, 0, 1, 1, 0, 1);
        });
        Due.test("P3 set: PLACE changes no ITEM", () -> {
            NineDown x = ones(0, 4);
            x.set(0, 4, 0);
            x.set(0, -1, 0);
            items(x, 0, 1, 1, 1, 1);
        });
        Due.test("P3 set: a ROW that was dropped is NULL", () -> {
            NineDown x = ones(0, 4);
            x.drop(0);
            Due.due("set", x.set(0, 0, 5), Due.NULL);
        });
    }

    private static void lane(String name, int lane, int v, int want) {
        Due.test("P3 set: " + name, () -> {
            NineDown x = Due.told(ONE);
            x.row(0, lane, 1);
            Due.due("set", x.set(0, 0, v), want);
        });
    }

    private static void setLanes() {
        lane("the greatest byte", 0, 127, 127);
        lane("a byte wraps around above", 0, 128, -128);
        lane("the least byte", 0, -128, -128);
        lane("a byte wraps around below", 0, -129, 127);
        lane("a byte has 8 bits", 0, 256, 0);
        lane("the lowest 8 bits of the greatest", 0, MOST, -1);
        lane("the lowest 8 bits of the least", 0, LEAST, 0);
        lane("the greatest short", 1, 32767, 32767);
        lane("a short wraps around above", 1, 32768, -32768);
        lane("the least short", 1, -32768, -32768);
        lane("a short wraps around below", 1, -32769, 32767);
        lane("a short has 16 bits", 1, 65536, 0);
        lane("the lowest 16 bits of the greatest", 1, MOST, -1);
        lane("the greatest int", 2, MOST, MOST);
        lane("the least int", 2, LEAST, LEAST);
        Due.test("P3 set: what is cut away is not kept", () -> {
            NineDown x = Due.told(ONE);
            x.row(0, 0, 1);
            x.row(1, 1, 1);
            Due.due("set", x.set(0, 0, 257), 1);
            Due.due("a byte of 257 is 1", x.first(0, 0), 257);
            Due.due("set", x.set(1, 0, 65537), 1);
            Due.due("a short of 65537 is 1", x.first(1, 0), 257);
        });
    }

    private static void copy() {
        Due.test("P4 copy: as they were ahead, to the right within one ROW", () -> {
            NineDown x = Due.told(ONE);
            Due.fill(x, 0, 0, 1, 0, 0, 0, 0);
            Due.due("copy", x.copy(0, 0, 0, 1, 4), 4);
            items(x, 0, 1, 1, 0, 0, 0);
        });
        Due.test("P4 copy: as they were ahead, to the left within one ROW", () -> {
            NineDown x = Due.told(ONE);
            Due.fill(x, 0, 0, 0, 0, 0, 0, 1);
            Due.due("copy", x.copy(0, 1, 0, 0, 4), 4);
            items(x, 0, 0, 0, 0, 1, 1);
        });
        Due.test("P4 copy: onto itself", () -> {
            NineDown x = Due.told(ONE);
            Due.fill(x, 0, 0, 0, 1, 0);
            Due.due("copy", x.copy(0, 0, 0, 0, 3), 3);
            items(x, 0, 0, 1, 0);
        });
        Due.test("P4 copy: to another ROW, which alone changes", () -> {
            NineDown x = Due.told(ONE);
            Due.fill(x, 0, 0, 1, 0, 1);
            Due.fill(x, 1, 0, 0, 0, 0, 0);
            Due.due("copy", x.copy(0, 0, 1, 1, 3), 3);
            items(x, 0, 1, 0, 1);
            items(x, 1, 0, 1, 0, 1);
        });
        Due.test("P4 copy: only n", () -> {
            NineDown x = Due.told(ONE);
            Due.fill(x, 0, 0, 1, 1, 1);
            Due.fill(x, 1, 0, 0, 0, 0);
            Due.due("copy", x.copy(0, 0, 1, 0, 2), 2);
            items(x, 1, 1, 1, 0);
        });
        Due.test("P4 copy: a later set of one leaves the other", () -> {
            NineDown x = Due.told(ONE);
            Due.fill(x, 0, 0, 1);
            Due.fill(x, 1, 0, 0);
            x.copy(0, 0, 1, 0, 1);
            x.set(0, 0, 0);
            items(x, 1, 1);
        });
        Due.test("P4 copy: all 40", () -> {
            NineDown x = ones(2, 40);
            x.row(1, 2, 40);
            Due.due("copy", x.copy(0, 0, 1, 0, 40), 40);
            Due.due("the first", x.first(1, 0), 257);
            Due.due("the last", x.first(1, 39), 257);
        });
        Due.test("P4 copy: ints whole", () -> {
            NineDown x = Due.told(ONE);
            Due.fill(x, 0, 2, 65537);
            Due.fill(x, 1, 2, 1);
            x.copy(0, 0, 1, 0, 1);
            Due.due("it is not 1", x.first(1, 0), 0);
        });
    }

    private static NineDown threeAndFour() {
        NineDown x = Due.told(ONE);
        Due.fill(x, 0, 0, 1, 1, 1);
        Due.fill(x, 1, 0, 0, 0, 0, 0);
        return x;
    }

    private static void place(String name, int i, int j, int n, int want) {
        Due.test("P4 copy: " + name, () -> {
            NineDown x = threeAndFour();
            Due.due("copy(0, " + i + ", 1, " + j + ", " + n + ")", x.copy(0, i, 1, j, n), want);
            if (want < 0 || n == 0) {
                items(x, 0, 1, 1, 1);
                items(x, 1, 0, 0, 0, 0);
            }
        });
    }

    private static void copyPlaces() {
        place("up to both ends", 1, 2, 2, 2);
        place("i below 0", -1, 0, 1, Due.PLACE);
        place("the least i", LEAST, 0, 1, Due.PLACE);
        place("j below 0", 0, -1, 1, Due.PLACE);
        place("the least j", 0, LEAST, 1, Due.PLACE);
        place("n below 0 is PLACE, not SIZE", 0, 0, -1, Due.PLACE);
        place("the least n", 0, 0, LEAST, Due.PLACE);
        place("i and n beyond the end of a", 1, 0, 3, Due.PLACE);
        place("j and n beyond the end of b", 0, 2, 3, Due.PLACE);
        place("n beyond a alone", 0, 0, 4, Due.PLACE);
        place("a sum of i and n that wraps around", 1, 0, MOST, Due.PLACE);
        place("a sum of j and n that wraps around", 0, MOST, 1, Due.PLACE);
        place("the greatest of all", MOST, MOST, MOST, Due.PLACE);
        place("i and n that cancel out", 4, 0, -1, Due.PLACE);
        place("none, at 0", 0, 0, 0, 0);
        place("none, at both ends", 3, 4, 0, 0);
        place("none, i beyond its end", 4, 0, 0, Due.PLACE);
        place("none, j beyond its end", 0, 5, 0, Due.PLACE);
        place("none, i below 0", -1, 0, 0, Due.PLACE);
        place("none, j below 0", 0, -1, 0, Due.PLACE);
        Due.test("P4 copy: none of an empty ROW onto itself", () -> {
            NineDown x = Due.told(ONE);
            x.row(0, 0, 0);
            Due.due("copy", x.copy(0, 0, 0, 0, 0), 0);
            Due.due("one", x.copy(0, 0, 0, 0, 1), Due.PLACE);
        });
    }

    private static void order(String name, int a, int i, int b, int n, int want) {
        Due.test("P4 copy: " + name, () -> {
            NineDown x = threeAndFour();
            x.row(2, 1, 4);
            Due.due("copy", x.copy(a, i, b, 0, n), want);
        });
    }

    private static void copyOrder() {
        order("a is no ROW, -1", -1, 0, 1, 1, Due.BAD);
        order("a is no ROW, 8", 8, 0, 1, 1, Due.BAD);
        order("b is no ROW, -1", 0, 0, -1, 1, Due.BAD);
        order("b is no ROW, 8", 0, 0, 8, 1, Due.BAD);
        order("a is missing", 5, 0, 1, 1, Due.NULL);
        order("b is missing", 0, 0, 5, 1, Due.NULL);
        order("both are the same that is missing", 5, 0, 5, 1, Due.NULL);
        order("two LANES", 0, 0, 2, 1, Due.STORE);
        order("two LANES, the other way", 2, 0, 0, 1, Due.STORE);
        order("two LANES, none to copy", 0, 0, 2, 0, Due.STORE);
        order("BAD of b ahead of NULL of a", 5, 0, 8, 1, Due.BAD);
        order("BAD of a ahead of NULL of b", 8, 0, 5, 1, Due.BAD);
        order("BAD ahead of PLACE", 8, -1, 1, 1, Due.BAD);
        order("NULL of a ahead of PLACE", 5, -1, 1, 1, Due.NULL);
        order("NULL of b ahead of PLACE", 0, -1, 5, 1, Due.NULL);
        order("NULL of b ahead of a PLACE beyond", 0, 0, 5, 9, Due.NULL);
        order("STORE ahead of PLACE below", 0, -1, 2, 1, Due.STORE);
        order("STORE ahead of PLACE beyond", 0, 0, 2, 9, Due.STORE);
        order("STORE ahead of n below 0", 0, 0, 2, -1, Due.STORE);
        Due.test("P4 copy: shorts and ints are two LANES", () -> {
            NineDown x = Due.told(ONE);
            x.row(0, 1, 1);
            x.row(1, 2, 1);
            Due.due("copy", x.copy(0, 0, 1, 0, 1), Due.STORE);
        });
    }

    private static void drop() {
        Due.one("P5 drop: ROW -1 is BAD", "", x -> x.drop(-1), Due.BAD);
        Due.one("P5 drop: ROW 8 is BAD", "", x -> x.drop(8), Due.BAD);
        Due.one("P5 drop: one that is missing is NULL", "", x -> x.drop(0), Due.NULL);
        Due.test("P5 drop: how many ITEMS it had", () -> Due.due("drop", ones(0, 40).drop(0), 40));
        Due.test("P5 drop: an empty one had none", () -> Due.due("drop", ones(0, 0).drop(0), 0));
        Due.test("P5 drop: missing from now on", () -> {
            NineDown x = ones(0, 4);
            x.drop(0);
            Due.due("count(0)", x.count(0), 0);
            Due.due("drop", x.drop(0), Due.NULL);
            Due.due("first", x.first(0, 0), Due.NULL);
            Due.due("plan", x.plan(0, 0, 0, 0), Due.NULL);
            Due.due("who", x.who(0, 0, 0, 1), Due.NULL);
            Due.due("copy", x.copy(0, 0, 0, 0, 0), Due.NULL);
        });
        Due.test("P5 drop: of the last ROW only that one goes", () -> {
            NineDown x = ones(0, 4);
            x.row(7, 0, 6);
            Due.due("drop", x.drop(7), 6);
            Due.due("count(0)", x.count(0), 1);
            items(x, 0, 1, 1, 1, 1);
        });
    }

    private static void found(String name, java.util.function.ToLongFunction<NineDown> call, int answer) {
        Due.test("P37 status: " + name, () -> {
            NineDown x = threeAndFour();
            x.row(2, 1, 4);
            Due.due("status ahead of it", x.status(), 0);
            Due.due("the call", call.applyAsLong(x), answer);
            Due.due("status", x.status(), -1000010 - answer);
        });
    }

    private static void statusNumbers() {
        found("row, SIZE is 4", x -> x.row(0, 0, -1), Due.SIZE);
        found("set, NULL is 1", x -> x.set(5, 0, 1), Due.NULL);
        found("set, PLACE is 2", x -> x.set(0, 3, 1), Due.PLACE);
        found("copy, NULL is 1", x -> x.copy(0, 0, 5, 0, 1), Due.NULL);
        found("copy, STORE is 5", x -> x.copy(0, 0, 2, 0, 1), Due.STORE);
        found("copy, PLACE is 2", x -> x.copy(0, 0, 1, 0, -1), Due.PLACE);
        found("drop, NULL is 1", x -> x.drop(5), Due.NULL);
        found("first, NULL is 1", x -> x.first(5, 0), Due.NULL);
        found("first, PLACE is 2", x -> x.first(0, 3), Due.PLACE);
        found("plan, NULL is 1", x -> x.plan(5, 0, 1, 0), Due.NULL);
        found("plan, PLACE is 2", x -> x.plan(0, 3, 1, 0), Due.PLACE);
        found("who, NULL is 1", x -> x.who(0, 5, 0, 1), Due.NULL);
        found("who, PLACE is 2", x -> x.who(0, 0, 2, 1), Due.PLACE);
        found("as, KIND is 3", x -> x.as(0, 4), Due.KIND);
    }

    /** A call that leaves the status of an earlier one, STORE, as it is. */
    private static void leaves(String name, String text, java.util.function.ToLongFunction<NineDown> call, long answer) {
        Due.test("P37 status: " + name + " leaves it", () -> {
            NineDown x = text.isEmpty() ? new NineDown() : Due.told(text);
            Due.fill(x, 0, 0, 9, 9, 9);
            x.row(2, 1, 4);
            Due.due("STORE", x.copy(0, 0, 2, 0, 1), Due.STORE);
            Due.due("the call", call.applyAsLong(x), answer);
            Due.due("status", x.status(), 5);
        });
    }

    private static void statusStays() {
        leaves("row, BAD", ONE, x -> x.row(8, 0, 1), Due.BAD);
        leaves("set, BAD", ONE, x -> x.set(8, 0, 1), Due.BAD);
        leaves("copy, BAD", ONE, x -> x.copy(8, 0, 0, 0, 1), Due.BAD);
        leaves("drop, BAD", ONE, x -> x.drop(8), Due.BAD);
        leaves("first, STATE", "", x -> x.first(0, 0), Due.STATE);
        leaves("first, BAD", ONE, x -> x.first(8, 0), Due.BAD);
        leaves("plan, STATE", "", x -> x.plan(0, 0, 1, 0), Due.STATE);
        leaves("plan, BAD", ONE, x -> x.plan(0, 0, 41, 0), Due.BAD);
        leaves("who, BAD", ONE, x -> x.who(1, 0, 0, 1), Due.BAD);
        leaves("who, BAD of an ITEM", ONE, x -> x.who(0, 0, 0, 1), Due.BAD);
        leaves("as, BAD", ONE, x -> x.as(0, 6), Due.BAD);
        leaves("feed", ONE, x -> x.feed(9), 1);
        leaves("yard", ONE, x -> x.yard(), -1000100);
        leaves("lift", ONE, x -> x.lift(0, 0), 1);
        leaves("space", ONE, x -> x.space(0, 2), 1);
        leaves("kind", ONE, x -> x.kind(0), 1);
        leaves("ask", ONE, x -> x.ask(0, 1), 1);
        leaves("image", ONE, x -> x.image(0), 1);
        leaves("status itself", ONE, x -> x.status(), 5);
        leaves("soonest", ONE, x -> x.soonest(1, 0), 1);
    }

    /** A call that has no FINDING, behind one that had. */
    private static void clears(String name, java.util.function.ToLongFunction<NineDown> call, long answer) {
        Due.test("P37 status: " + name + " had none", () -> {
            NineDown x = threeAndFour();
            Due.due("NULL", x.drop(5), Due.NULL);
            Due.due("status 1", x.status(), 1);
            Due.due("the call", call.applyAsLong(x), answer);
            Due.due("status", x.status(), 0);
        });
    }

    private static void statusClears() {
        clears("row", x -> x.row(6, 0, 2), 2);
        clears("set", x -> x.set(0, 0, 2), 2);
        clears("copy", x -> x.copy(0, 0, 1, 0, 2), 2);
        clears("drop", x -> x.drop(0), 3);
        clears("first", x -> x.first(0, 0), 257);
        clears("plan", x -> x.plan(0, 0, 1, 0), 0);
        clears("plan of none", x -> x.plan(0, 0, 0, 0), 0);
        clears("who", x -> x.who(0, 1, 0, 1), 8 + 16 + 32);
        clears("as", x -> x.as(0, 1), 0);
    }
}
