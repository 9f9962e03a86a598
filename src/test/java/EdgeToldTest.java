import java.util.function.ToLongFunction;

/** Boundary cases of promises 26 to 31: each sentence by itself. */
public final class EdgeToldTest {
    private static final int MOST = Integer.MAX_VALUE, LEAST = Integer.MIN_VALUE;
    private static final String LAW = "y3,5,7;";
    private static final String EIGHT = Due.times("k4,3;", 8);
    private static final String CAUGHT = LAW + "k9,1;k4,2;c0,1;t9;f9;p9;n9;";

    public static void main(String[] args) {
        planRefused();
        plan();
        planItems();
        whoRefused();
        whoItems();
        who();
        seenRefused();
        seen();
        drawnRefused();
        drawn();
        image();
        restore();
        restoresEach();
        Due.end();
    }

    /** A yard, and row 2 with items. */
    private static NineDown with(String text, int... items) {
        NineDown x = Due.told(text);
        Due.fill(x, 2, 2, items);
        return x;
    }

    private static void call(String name, String text, int n, ToLongFunction<NineDown> call, long want) {
        Due.test(name, () -> Due.due(name, call.applyAsLong(with(text, new int[n])), want));
    }

    private static void planRefused() {
        Due.one("P26 plan: no YARD is STATE", "", x -> x.plan(0, 0, 0, 0), Due.STATE);
        Due.one("P26 plan: STATE ahead of BAD of a ROW", "", x -> x.plan(8, 0, 0, 0), Due.STATE);
        Due.one("P26 plan: STATE ahead of BAD of n", "", x -> x.plan(0, 0, 41, 0), Due.STATE);
        Due.one("P26 plan: STATE ahead of BAD of what", "", x -> x.plan(0, 0, 0, 3), Due.STATE);
        Due.one("P26 plan: ROW -1 is BAD", CAUGHT, x -> x.plan(-1, 0, 0, 0), Due.BAD);
        Due.one("P26 plan: ROW 8 is BAD", CAUGHT, x -> x.plan(8, 0, 0, 0), Due.BAD);
        call("P26 plan: n -1 is BAD", CAUGHT, 3, x -> x.plan(2, 0, -1, 0), Due.BAD);
        call("P26 plan: n 41 is BAD", CAUGHT, 40, x -> x.plan(2, 0, 41, 0), Due.BAD);
        call("P26 plan: the greatest n is BAD", CAUGHT, 40, x -> x.plan(2, 1, MOST, 0), Due.BAD);
        call("P26 plan: n 40 of 40", CAUGHT, 40, x -> x.plan(2, 0, 40, 0), 1);
        call("P26 plan: what -1 is BAD", CAUGHT, 3, x -> x.plan(2, 0, 1, -1), Due.BAD);
        call("P26 plan: what 3 is BAD", CAUGHT, 3, x -> x.plan(2, 0, 1, 3), Due.BAD);
        Due.one("P26 plan: a ROW that is missing is NULL", CAUGHT, x -> x.plan(0, 0, 0, 0), Due.NULL);
        Due.one("P26 plan: BAD of n ahead of NULL", CAUGHT, x -> x.plan(0, 0, 41, 0), Due.BAD);
        Due.one("P26 plan: BAD of what ahead of NULL", CAUGHT, x -> x.plan(0, 0, 0, 3), Due.BAD);
        Due.one("P26 plan: NULL ahead of PLACE", CAUGHT, x -> x.plan(0, -1, 1, 0), Due.NULL);
        call("P26 plan: BAD of what ahead of PLACE", CAUGHT, 3, x -> x.plan(2, -1, 1, 3), Due.BAD);
        call("P26 plan: i -1", CAUGHT, 3, x -> x.plan(2, -1, 1, 0), Due.PLACE);
        call("P26 plan: i -1, of none", CAUGHT, 3, x -> x.plan(2, -1, 0, 0), Due.PLACE);
        call("P26 plan: the least i", CAUGHT, 3, x -> x.plan(2, LEAST, 1, 0), Due.PLACE);
        call("P26 plan: the greatest i", CAUGHT, 3, x -> x.plan(2, MOST, 1, 0), Due.PLACE);
        call("P26 plan: the greatest i with 40", CAUGHT, 3, x -> x.plan(2, MOST, 40, 0), Due.PLACE);
        call("P26 plan: up to the end", CAUGHT, 3, x -> x.plan(2, 2, 1, 0), 1);
        call("P26 plan: one beyond the end", CAUGHT, 3, x -> x.plan(2, 2, 2, 0), Due.PLACE);
        call("P26 plan: n more than there are", CAUGHT, 3, x -> x.plan(2, 0, 4, 0), Due.PLACE);
        call("P26 plan: none at the end", CAUGHT, 3, x -> x.plan(2, 3, 0, 0), 0);
        call("P26 plan: none beyond the end", CAUGHT, 3, x -> x.plan(2, 4, 0, 0), Due.PLACE);
        call("P26 plan: none of an empty ROW", CAUGHT, 0, x -> x.plan(2, 0, 0, 0), 0);
        call("P26 plan: one of an empty ROW", CAUGHT, 0, x -> x.plan(2, 0, 1, 0), Due.PLACE);
    }

    private static void planned(String name, String text, int many, int seconds, int falls, int... items) {
        int[] due = {many, seconds, falls};
        String[] whats = {"how many", "SECONDS", "FALLS"};
        for (int i = 0; i < 3; i++) {
            int what = i;
            Due.test("P26 plan: " + name + ": " + whats[what],
                () -> Due.due("plan", with(text, items).plan(2, 0, items.length, what), due[what]));
        }
    }

    private static void plan() {
        planned("none", CAUGHT, 0, 0, 0);
        planned("one behind another", CAUGHT, 2, 16, 1, 0, 1);
        planned("the first can not be", CAUGHT, 0, 0, 0, 30, 0, 1);
        planned("what is behind one that can not be does not count", CAUGHT, 1, 12, 1, 0, 0, 1);
        planned("a BIKE that is not there ends it", CAUGHT, 2, 7 + 4, 1, 1, 20, 3, 0);
        planned("one who leaves a note, behind one", CAUGHT, 2, 7 + 11, 1, 1, 30);
        planned("all eight", LAW + EIGHT + "t4;", 8, 32, 0, 7, 6, 5, 4, 3, 2, 1, 0);
        planned("more lifts than BIKES", LAW + "k4,1;t4;", 1, 4, 0, 0, 0, 0);
        Due.test("P26 plan: from now on", () -> {
            NineDown x = with(CAUGHT, 0, 1);
            x.lift(0, 0);
            Due.due("0 is UP", x.plan(2, 0, 2, 0), 0);
            Due.due("the other one", x.plan(2, 1, 1, 0), 1);
            Due.due("SECONDS of these", x.plan(2, 1, 1, 1), 4);
            Due.due("FALLS of these", x.plan(2, 1, 1, 2), 0);
        });
        Due.test("P26 plan: nothing changes", () -> {
            NineDown x = with(CAUGHT, 0, 1);
            x.plan(2, 0, 2, 0);
            Due.due("again", x.plan(2, 0, 2, 0), 2);
            Due.due("DOWN", x.stand(2), 3);
            Due.due("SECONDS", x.stand(0), 0);
            Due.due("ACTS", x.count(6), 0);
        });
        Due.test("P26 plan: only n of them, from i on", () -> {
            NineDown x = with(CAUGHT, 30, 1, 0, 30);
            Due.due("two from 1", x.plan(2, 1, 2, 0), 2);
            Due.due("one from 1", x.plan(2, 1, 1, 1), 7);
        });
    }

    private static void item(String name, String text, int item, int want) {
        Due.test("P26 plan: " + name, () -> Due.due("plan", with(text, item).plan(2, 0, 1, 0), want));
    }

    private static void planItems() {
        String all = LAW + EIGHT + "t4;t4;t4;t4;";
        item("ITEM 0, the first LIFTER and BIKE", all, 0, 1);
        item("ITEM 37, the last LIFTER and BIKE", all, 37, 1);
        item("ITEM 7", all, 7, 1);
        item("ITEM 8, no such BIKE", all, 8, 0);
        item("ITEM 9, no such BIKE", all, 9, 0);
        item("ITEM 38, no such BIKE", all, 38, 0);
        item("ITEM 40, no such LIFTER", all, 40, 0);
        item("ITEM 47, no such LIFTER", all, 47, 0);
        item("ITEM -1", all, -1, 0);
        item("ITEM -10", all, -10, 0);
        item("the least ITEM", all, LEAST, 0);
        item("the greatest ITEM", all, MOST, 0);
        item("ITEM 1, one BIKE alone", LAW + "k4,1;t4;", 1, 0);
        item("ITEM 10, one LIFTER alone", LAW + "k4,1;t4;", 10, 0);
        item("no LIFTER is there", LAW + "k4,1;", 0, 0);
    }

    private static void whoRefused() {
        Due.one("P27 who: no YARD is BAD", "", x -> x.who(0, 0, 0, 1), Due.BAD);
        call("P27 who: LIFTER -1 is BAD", CAUGHT, 16, x -> x.who(-1, 2, 0, 1), Due.BAD);
        call("P27 who: LIFTER 4 of 4 is BAD", CAUGHT, 16, x -> x.who(4, 2, 0, 1), Due.BAD);
        call("P27 who: LIFTER 3 of 4", CAUGHT, 16, x -> x.who(3, 2, 0, 1), 0);
        call("P27 who: no LIFTER is there", LAW + "k4,1;", 16, x -> x.who(0, 2, 0, 1), Due.BAD);
        call("P27 who: ROW -1 is BAD", CAUGHT, 16, x -> x.who(0, -1, 0, 1), Due.BAD);
        call("P27 who: ROW 8 is BAD", CAUGHT, 16, x -> x.who(0, 8, 0, 1), Due.BAD);
        call("P27 who: n 0 is BAD", CAUGHT, 16, x -> x.who(0, 2, 0, 0), Due.BAD);
        call("P27 who: n -1 is BAD", CAUGHT, 16, x -> x.who(0, 2, 0, -1), Due.BAD);
        call("P27 who: n 9 is BAD", CAUGHT, 40, x -> x.who(0, 2, 0, 9), Due.BAD);
        call("P27 who: the greatest n is BAD", CAUGHT, 40, x -> x.who(0, 2, 0, MOST), Due.BAD);
        call("P27 who: n 8, the greatest", CAUGHT, 16, x -> x.who(0, 2, 0, 8), 0);
        Due.one("P27 who: a ROW that is missing is NULL", CAUGHT, x -> x.who(0, 2, 0, 1), Due.NULL);
        Due.one("P27 who: BAD of a LIFTER ahead of NULL", CAUGHT, x -> x.who(4, 2, 0, 1), Due.BAD);
        Due.one("P27 who: BAD of n ahead of NULL", CAUGHT, x -> x.who(0, 2, 0, 9), Due.BAD);
        Due.one("P27 who: NULL ahead of PLACE", CAUGHT, x -> x.who(0, 2, -1, 1), Due.NULL);
        call("P27 who: BAD of n ahead of PLACE", CAUGHT, 2, x -> x.who(0, 2, -1, 9), Due.BAD);
        call("P27 who: i -1", CAUGHT, 16, x -> x.who(0, 2, -1, 1), Due.PLACE);
        call("P27 who: the least i", CAUGHT, 16, x -> x.who(0, 2, LEAST, 1), Due.PLACE);
        call("P27 who: the greatest i", CAUGHT, 16, x -> x.who(0, 2, MOST, 1), Due.PLACE);
        call("P27 who: 2 n ITEMS up to the end", CAUGHT, 5, x -> x.who(0, 2, 3, 1), 0);
        call("P27 who: one ITEM beyond the end", CAUGHT, 5, x -> x.who(0, 2, 4, 1), Due.PLACE);
        call("P27 who: 2 n ITEMS, not n", CAUGHT, 5, x -> x.who(0, 2, 0, 3), Due.PLACE);
        call("P27 who: 15 ITEMS are too few for 8", CAUGHT, 15, x -> x.who(0, 2, 0, 8), Due.PLACE);
        call("P27 who: an empty ROW", CAUGHT, 0, x -> x.who(0, 2, 0, 1), Due.PLACE);
    }

    private static void whoIs(String name, String text, int n, int want, int... items) {
        Due.test("P27 who: " + name, () -> Due.due("who", with(text, items).who(0, 2, 0, n), want));
    }

    private static void whoItems() {
        whoIs("an ITEM -1 is no BIKE", CAUGHT, 1, Due.BAD, -1, 12);
        whoIs("an ITEM 2 of 2 is no BIKE", CAUGHT, 1, Due.BAD, 2, 12);
        whoIs("the greatest ITEM is no BIKE", CAUGHT, 1, Due.BAD, MOST, 12);
        whoIs("BIKE 1 of 2", CAUGHT, 1, 2, 1, 7);
        whoIs("a later one that is no BIKE", CAUGHT, 2, Due.BAD, 0, 12, 2, 4);
        whoIs("no BIKE, though those ahead of it can not be", CAUGHT, 3, Due.BAD, 0, 99, 0, 99, 7, 1);
        whoIs("no BIKE behind n is not looked at", CAUGHT, 1, 2, 0, 12, 2, 4);
        whoIs("SECONDS may be what is no BIKE", CAUGHT, 1, 0, 0, -1);
        whoIs("the least SECONDS", CAUGHT, 1, 0, 0, LEAST);
        whoIs("SECONDS that NONE is, of what can not be", LAW + "k9,1;t1;", 1, 0, 0, Due.NONE);
        whoIs("SECONDS that STATE is, of what can not be", LAW + "k9,1;t1;", 1, 0, 0, Due.STATE);
        call("P27 who: PLACE ahead of BAD of an ITEM", CAUGHT, 3, x -> {
            x.set(2, 0, 9);
            return x.who(0, 2, 0, 2);
        }, Due.PLACE);
    }

    private static void who() {
        String one = "y3,5,2;k5,1;";
        whoIs("TOP and FREEING", one + "t5;", 1, 2 + 4, 0, 5);
        whoIs("PAIR and GOING", one + "t5;", 1, 8 + 16, 0, 2);
        whoIs("NOTE, the last bit", one + "t5;", 1, 32, 0, 4);
        whoIs("none of them", one + "t5;", 1, 0, 0, 3);
        whoIs("its KIND, as told, does not matter", one + "n5;", 1, 2 + 4, 0, 5);
        whoIs("its FORCE does: 1 too little but for a PAIR", one + "t4;", 1, 8, 0, 2);
        whoIs("too little for a PAIR, too", one + "t2;", 1, 0, 0, 2);
        whoIs("too little for all others", one + "t4;", 1, 0, 0, 5);
        whoIs("caught: no GOING one", CAUGHT, 1, 0, 0, 4);
        whoIs("caught: a TOP", CAUGHT, 1, 2, 0, 12);
        whoIs("caught: a FREEING one", CAUGHT, 1, 4, 0, 14);
        whoIs("caught: a PAIR", CAUGHT, 1, 8, 0, 6);
        whoIs("one behind another", CAUGHT, 2, 2, 0, 12, 1, 4);
        whoIs("one behind another, not as if each were the first", CAUGHT, 2, 0, 0, 12, 1, 7);
        whoIs("the same BIKE twice can not be", one + "t5;", 2, 0, 0, 5, 0, 5);
        whoIs("one and the same lifter: TOP, then PAIR is none", LAW + "k5,1;k5,1;t5;", 2, 0, 0, 5, 1, 2);
        whoIs("not FREE", LAW + "k5,1;k5,1;o0,1;t5;", 1, 0, 1, 5);
        whoIs("FREE by the lift ahead of it", LAW + "k5,1;k5,1;o0,1;t5;", 2, 6, 0, 5, 1, 5);
        whoIs("all eight", LAW + EIGHT + "t4;", 8, 6, 0, 4, 1, 4, 2, 4, 3, 4, 4, 4, 5, 4, 6, 4, 7, 4);
        whoIs("all eight, the last takes too long", LAW + EIGHT + "t4;", 8, 0, 0, 4, 1, 4, 2, 4, 3, 4, 4, 4, 5, 4, 6, 4, 7, 5);
        whoIs("no SECOND", LAW + "k1,1;t5;", 1, 8 + 16, 0, 0);
        Due.test("P27 who: from now on", () -> {
            NineDown x = with(CAUGHT, 1, 4);
            Due.due("caught", x.who(0, 2, 0, 1), 0);
            x.lift(0, 0);
            Due.due("not any more", x.who(0, 2, 0, 1), 2 + 4);
            Due.due("nothing changes", x.who(0, 2, 0, 1), 2 + 4);
        });
        Due.test("P27 who: from i on", () -> {
            NineDown x = with(CAUGHT, 9, 1, 7);
            Due.due("who", x.who(0, 2, 1, 1), 2);
        });
        Due.test("P27 who: each LIFTER by its own FORCE, one call behind another", () -> {
            NineDown x = with(LAW + "k10,1;t10;t9;t5;t4;", 0, 5);
            Due.due("10", x.who(0, 2, 0, 1), 8 + 16);
            Due.due("9", x.who(1, 2, 0, 1), 8);
            Due.due("5", x.who(2, 2, 0, 1), 8);
            Due.due("4", x.who(3, 2, 0, 1), 0);
            Due.due("10 again", x.who(0, 2, 0, 1), 8 + 16);
            Due.due("their KINDS stay", x.kind(0), 1);
            Due.due("their FORCES stay", x.takes(3, 0, 0), Due.NONE);
            Due.due("their FORCES stay", x.takes(0, 0, 0), 10);
        });
    }

    private static void seenRefused() {
        Due.one("P28 seen: p -1 is BAD", "", x -> x.seen(-1, 5, 2, 0), Due.BAD);
        Due.one("P28 seen: p 11 is BAD", "", x -> x.seen(11, 5, 2, 0), Due.BAD);
        Due.one("P28 seen: n -1 is BAD", "", x -> x.seen(5, -1, 0, 0), Due.BAD);
        Due.one("P28 seen: n -1, k -1 is BAD", "", x -> x.seen(5, -1, -1, 0), Due.BAD);
        Due.one("P28 seen: n 10 is BAD", "", x -> x.seen(5, 10, 2, 0), Due.BAD);
        Due.one("P28 seen: k -1 is BAD", "", x -> x.seen(5, 5, -1, 0), Due.BAD);
        Due.one("P28 seen: k n + 1 is BAD", "", x -> x.seen(5, 5, 6, 0), Due.BAD);
        Due.one("P28 seen: k 1 of n 0 is BAD", "", x -> x.seen(5, 0, 1, 0), Due.BAD);
        Due.one("P28 seen: what -1 is BAD", "", x -> x.seen(5, 5, 2, -1), Due.BAD);
        Due.one("P28 seen: what 2 is BAD", "", x -> x.seen(5, 5, 2, 2), Due.BAD);
        Due.one("P28 seen: the least p is BAD", "", x -> x.seen(LEAST, 5, 2, 0), Due.BAD);
        Due.one("P28 seen: the greatest n is BAD", "", x -> x.seen(5, MOST, 2, 0), Due.BAD);
    }

    private static void fraction(String name, int p, int n, int k, long above, long below) {
        Due.one("P28 seen: " + name + ": above", "", x -> x.seen(p, n, k, 0), above);
        Due.one("P28 seen: " + name + ": below", "", x -> x.seen(p, n, k, 1), below);
    }

    private static void seen() {
        fraction("p 0, never: 0 is 0 by 1", 0, 9, 1, 0, 1);
        fraction("p 0, none of them or more", 0, 9, 0, 1, 1);
        fraction("p 10, always", 10, 9, 9, 1, 1);
        fraction("n 0, k 0", 5, 0, 0, 1, 1);
        fraction("n 0, k 0, p 0", 0, 0, 0, 1, 1);
        fraction("n 0, k 0, p 10", 10, 0, 0, 1, 1);
        fraction("k 0 is sure", 3, 9, 0, 1, 1);
        fraction("k n, all of them", 1, 9, 9, 1, 1000000000L);
        fraction("k n, in lowest terms", 2, 9, 9, 1, 1953125);
        fraction("one of one", 7, 1, 1, 7, 10);
        fraction("one of one, in lowest terms", 4, 1, 1, 2, 5);
        fraction("one or more of two", 4, 2, 1, 16, 25);
        fraction("k, or more: of nine five", 5, 9, 5, 1, 2);
        fraction("one or more of nine", 1, 9, 1, 612579511L, 1000000000L);
        fraction("one or more of nine, almost sure", 9, 9, 1, 999999999L, 1000000000L);
        // 3 of 3: 27, 2 of 3: 3 times 9 times 7
        fraction("two or more of three", 3, 3, 2, 27, 125);
        Due.test("P28 seen: a YARD does not matter", () -> {
            Due.due("above", Due.told(CAUGHT).seen(7, 1, 1, 0), 7);
            Due.due("below", Due.told(CAUGHT).seen(7, 1, 1, 1), 10);
        });
    }

    private static void drawnRefused() {
        Due.one("P29 drawn: no YARD is STATE", "", x -> x.drawn(1, 1, 0), Due.STATE);
        Due.one("P29 drawn: STATE ahead of BAD of n", "", x -> x.drawn(61, 1, 0), Due.STATE);
        Due.one("P29 drawn: STATE ahead of BAD of a SEED", "", x -> x.drawn(1, 0, 0), Due.STATE);
        Due.one("P29 drawn: STATE ahead of BAD of what", "", x -> x.drawn(1, 1, 2), Due.STATE);
        Due.one("P29 drawn: n -1 is BAD", CAUGHT, x -> x.drawn(-1, 1, 0), Due.BAD);
        Due.one("P29 drawn: n 61 is BAD", CAUGHT, x -> x.drawn(61, 1, 0), Due.BAD);
        Due.one("P29 drawn: SEED 0 is BAD", CAUGHT, x -> x.drawn(1, 0, 0), Due.BAD);
        Due.one("P29 drawn: SEED -1 is BAD", CAUGHT, x -> x.drawn(1, -1, 0), Due.BAD);
        Due.one("P29 drawn: SEED 1000000 is BAD", CAUGHT, x -> x.drawn(1, 1000000, 0), Due.BAD);
        Due.one("P29 drawn: what -1 is BAD", CAUGHT, x -> x.drawn(1, 1, -1), Due.BAD);
        Due.one("P29 drawn: what 2 is BAD", CAUGHT, x -> x.drawn(1, 1, 2), Due.BAD);
    }

    private static void days(String name, String text, int n, int seed, int seconds, int falls) {
        Due.one("P29 drawn: " + name + ": SECONDS", text, x -> x.drawn(n, seed, 0), seconds);
        Due.one("P29 drawn: " + name + ": FALLS", text, x -> x.drawn(n, seed, 1), falls);
    }

    /**
     * By SEED 1 X is 16807, 282475249, 1622650073, 984943658, 1144108930, 470211272, 101027544, 1457850878, ..:
     * the first two leave 0 by 7; by 2 they leave 1, 1, 1, 0, 0, 0, 0, 0.
     */
    private static void drawn() {
        String one = LAW + "k5,1;t5;";
        days("n 0, nothing", one, 0, 1, 0, 0);
        days("one day: lifted, and fallen anew behind it", one, 1, 1, 5, 1);
        days("two days", one, 2, 1, 10, 2);
        days("three days: X leaves 2 by 7, it stays UP", one, 3, 1, 15, 2);
        days("eight days: it is UP, and can not be lifted", one, 8, 1, 15, 2);
        days("SEED 999999, the greatest: X is 1774597664, by 7 0", one, 1, 999999, 5, 1);
        days("SEED 2: X is 33614, by 7 0", one, 1, 2, 5, 1);
        days("no LIFTER is there", LAW + "k5,1;", 60, 1, 0, 0);
        days("too heavy: DOWN, it does not fall", LAW + "k6,1;t5;", 2, 1, 0, 0);
        days("LIFTER 1 of 2, BIKE 1 of 2", LAW + "k5,1;k6,1;t1;t6;", 1, 1, 6, 1);
        days("LIFTER 1 of 2 is too weak", LAW + "k5,1;k6,1;t6;t5;", 3, 1, 0, 0);
        days("on day 4 LIFTER 0, BIKE 0", LAW + "k5,1;k7,1;t5;t6;", 4, 1, 5, 0);
        // 16807 leaves 1 by 3, 7 by 8 (and 3 by 4)
        days("LIFTER 1 of 2, BIKE 1 of 3", LAW + "k9,1;k4,1;k9,1;t1;t4;", 1, 1, 4, 1);
        days("LIFTER 3 of 4, BIKE 7 of 8", LAW + Due.times("k9,1;", 7) + "k3,1;t1;t1;t1;t3;", 1, 1, 3, 1);
        days("FALLS of the lift, too", LAW + "k5,1;k6,1;c0,1;t1;t6;", 1, 1, 9, 2);
        Due.one("P29 drawn: n 60, the greatest", one, x -> x.drawn(60, 1, 0) >= x.drawn(59, 1, 0) ? 1 : 0, 1);
        Due.test("P29 drawn: n 60, each day counted as the words say", () -> {
            long x = 1;
            int seconds = 0;
            int falls = 0;
            boolean down = true;
            for (int day = 0; day < 60; day++) {
                x = x * 16807 % 2147483647;
                seconds += down ? 5 : 0;
                falls += x % 7 == 0 ? 1 : 0;
                down = x % 7 == 0;
            }
            Due.due("SECONDS", Due.told(one).drawn(60, 1, 0), seconds);
            Due.due("FALLS", Due.told(one).drawn(60, 1, 1), falls);
        });
        Due.test("P29 drawn: one that was UP falls, too", () -> {
            NineDown x = Due.told(one);
            x.lift(0, 0);
            Due.due("SECONDS of these", x.drawn(1, 1, 0), 0);
            Due.due("FALLS of these", x.drawn(1, 1, 1), 1);
        });
        Due.test("P29 drawn: nothing changes", () -> {
            NineDown x = Due.told(one);
            x.drawn(3, 1, 0);
            Due.due("again", x.drawn(3, 1, 0), 15);
            Due.due("DOWN", x.stand(2), 1);
            Due.due("SECONDS", x.stand(0), 0);
            Due.due("FALLS", x.stand(1), 0);
            Due.due("ACTS", x.count(6), 0);
        });
    }

    private static void image() {
        Due.one("P30 image: no YARD is STATE", "", x -> x.image(0), Due.STATE);
        Due.one("P30 image: -1 is BAD", CAUGHT, x -> x.image(-1), Due.BAD);
        Due.one("P30 image: 2 is BAD", CAUGHT, x -> x.image(2), Due.BAD);
        Due.one("P30 image: BAD ahead of STATE, below", "", x -> x.image(-1), Due.BAD);
        Due.one("P30 image: BAD ahead of STATE, above", "", x -> x.image(2), Due.BAD);
        Due.one("P30 image: 0", CAUGHT, x -> x.image(0), 1);
        Due.one("P30 image: 1", CAUGHT, x -> x.image(1), 1);
        Due.test("P30 image: STATE keeps none", () -> {
            NineDown x = new NineDown();
            x.image(0);
            Due.due("restore", x.restore(0), Due.STATE);
        });
        Due.test("P30 image: ACTS can be undone yet", () -> {
            NineDown x = Due.told(CAUGHT);
            x.lift(0, 0);
            x.image(0);
            Due.due("count(6)", x.count(6), 1);
            Due.due("undo", x.undo(), 0);
            Due.due("restore", x.restore(0), 1);
            Due.due("the IMAGE is not undone", x.stand(2), 2);
        });
        Due.test("P30 image: a later one in place of it", () -> {
            NineDown x = Due.told(CAUGHT);
            x.image(0);
            x.lift(0, 0);
            x.image(0);
            x.lift(0, 1);
            x.restore(0);
            Due.due("DOWN", x.stand(2), 2);
        });
        Due.test("P30 image: two at once", () -> {
            NineDown x = Due.told(CAUGHT);
            x.image(0);
            x.lift(0, 0);
            x.image(1);
            x.lift(0, 1);
            x.restore(0);
            Due.due("0", x.stand(2), 3);
            x.restore(1);
            Due.due("1", x.stand(2), 2);
        });
    }

    private static void restore() {
        Due.one("P31 restore: -1 is BAD", "", x -> x.restore(-1), Due.BAD);
        Due.one("P31 restore: 2 is BAD", "", x -> x.restore(2), Due.BAD);
        Due.one("P31 restore: none was kept, no YARD", "", x -> x.restore(0), Due.STATE);
        Due.one("P31 restore: none was kept, a YARD", CAUGHT, x -> x.restore(0), Due.STATE);
        Due.test("P31 restore: none was kept of this number", () -> {
            NineDown x = Due.told(CAUGHT);
            x.image(0);
            Due.due("1", x.restore(1), Due.STATE);
            NineDown y = Due.told(CAUGHT);
            y.image(1);
            Due.due("0", y.restore(0), Due.STATE);
        });
        Due.test("P31 restore: STATE leaves the YARD and its ACTS", () -> {
            NineDown x = Due.told(CAUGHT);
            x.image(0);
            x.lift(0, 0);
            x.restore(1);
            Due.due("DOWN", x.stand(2), 2);
            Due.due("undo", x.undo(), 0);
        });
        Due.test("P31 restore: BAD leaves the YARD and its ACTS", () -> {
            NineDown x = Due.told(CAUGHT);
            x.image(0);
            x.lift(0, 0);
            x.restore(2);
            x.restore(-1);
            Due.due("DOWN", x.stand(2), 2);
            Due.due("undo", x.undo(), 0);
        });
        Due.test("P31 restore: no ACT can be undone then", () -> {
            NineDown x = Due.told(CAUGHT);
            x.lift(0, 0);
            x.image(0);
            x.lift(0, 1);
            Due.due("restore", x.restore(0), 1);
            Due.due("count(6)", x.count(6), 0);
            Due.due("undo", x.undo(), Due.STATE);
            Due.due("an ACT behind it", x.lift(0, 1), 4);
            Due.due("undo", x.undo(), 0);
            Due.due("DOWN", x.stand(2), 2);
        });
        Due.test("P31 restore: again and again", () -> {
            NineDown x = Due.told(CAUGHT);
            x.image(0);
            for (int i = 0; i < 3; i++) {
                x.lift(0, 0);
                x.space(0, 9);
                x.loosen(0);
                Due.due("restore", x.restore(0), 1);
                Due.due("DOWN", x.stand(2), 3);
                Due.due("GAP", x.bike(0, 1), 1);
                Due.due("LOOSE", x.hold(0, 3), 0);
            }
        });
    }

    private static void restoresEach() {
        Due.test("P31 restore: SECONDS, FALLS, DOWN, LOOSE, GAPS as kept", () -> {
            NineDown x = Due.told(CAUGHT);
            x.lift(0, 0);
            x.loosen(0);
            x.space(1, 13);
            x.image(1);
            x.fall(0);
            x.lift(1, 1);
            x.space(1, 14);
            x.restore(1);
            Due.due("SECONDS", x.stand(0), 17);
            Due.due("FALLS", x.stand(1), 1);
            Due.due("DOWN", x.stand(2), 2);
            Due.due("LOOSE", x.hold(0, 3), 1);
            Due.due("GAP", x.bike(1, 1), 13);
        });
        Due.test("P31 restore: a YARD that another one stands in place of", () -> {
            NineDown x = Due.told(CAUGHT);
            x.image(0);
            Due.tell(x, "y9,0,0;" + Due.times("k1,1;", 8) + "o0,1;o2,3;g7;");
            x.restore(0);
            Due.due("BIKES", x.count(1), 2);
            Due.due("holds", x.count(2), 1);
            Due.due("LIFTERS", x.count(3), 4);
            Due.due("WEIGHT", x.bike(0, 0), 9);
            Due.due("no BIKE 2", x.bike(2, 0), Due.BAD);
            Due.due("sort", x.hold(0, 0), 1);
            Due.due("kind", x.kind(0), 1);
            Due.due("LOOSE", x.takes(1, 0, 0), 14);
            Due.due("FREE", x.stand(3), 3);
        });
        Due.test("P31 restore: the law as kept", () -> {
            NineDown x = Due.told("y3,5,7;k8,3;k8,4;k8,1;c0,1;f9;n9;");
            x.image(0);
            Due.tell(x, "y9,1,1;k8,3;k8,4;k8,1;c0,1;f9;n9;");
            x.restore(0);
            Due.due("REACH", x.fell(0, 1), 3);
            Due.due("LOOSE", x.takes(0, 0, 0), 13);
            Due.due("NOTE", x.takes(1, 2, 0), 11);
        });
        Due.test("P31 restore: the holds as kept", () -> {
            NineDown x = Due.told(LAW + "k8,3;k8,4;k8,1;c2,1;o0,2;t9;");
            x.image(0);
            Due.tell(x, LAW + "k8,3;k8,4;k8,1;o1,0;c1,0;t9;");
            x.restore(0);
            int[][] holds = {{1, 2, 1, 0}, {0, 0, 2, 0}};
            for (int hold = 0; hold < 2; hold++) {
                for (int what = 0; what < 4; what++) {
                    Due.due("hold(" + hold + ", " + what + ")", x.hold(hold, what), holds[hold][what]);
                }
            }
            Due.due("FREE", x.stand(3), 3);
            Due.due("CATCHES", x.bike(1, 4), 1);
            Due.due("loosen", x.loosen(0), 5);
            Due.due("CATCHES", x.bike(1, 4), 0);
        });
        Due.test("P31 restore: rows, the tape, FAULT, THE TRACE are none of the YARD", () -> {
            NineDown x = Due.told(CAUGHT);
            x.image(0);
            Due.tell(x, "y0");
            x.row(5, 1, 9);
            x.feed('y');
            x.ask(0, 1);
            x.restore(0);
            Due.due("rows", x.count(0), 1);
            Due.due("bytes", x.count(7), 1);
            Due.due("fault", x.fault(), 2);
            Due.due("trace", x.trace(0), 21);
        });
    }
}
