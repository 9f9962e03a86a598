/** Promises 18 to 29: what is foretold changes nothing. */
public final class ForetoldTest {
    public static void main(String[] args) {
        Due.test("Foretold: soonest", ForetoldTest::soonest);
        Due.test("Foretold: gentlest", ForetoldTest::gentlest);
        Due.test("Foretold: ties", ForetoldTest::ties);
        Due.test("Foretold: nevers", ForetoldTest::nevers);
        Due.test("Foretold: fetches", ForetoldTest::fetches);
        Due.test("Foretold: layers", ForetoldTest::layers);
        Due.test("Foretold: fells", ForetoldTest::fells);
        Due.test("Foretold: firsts", ForetoldTest::firsts);
        Due.test("Foretold: widens", ForetoldTest::widens);
        Due.test("Foretold: plans", ForetoldTest::plans);
        Due.test("Foretold: whos", ForetoldTest::whos);
        Due.test("Foretold: seens", ForetoldTest::seens);
        Due.test("Foretold: drawns", ForetoldTest::drawns);
        Due.end();
    }

    private static void soonest() {
        NineDown x = new NineDown();
        Due.due("STATE ahead of BAD", x.soonest(99, 9), Due.STATE);
        Due.tell(x, Due.FIVE);
        Due.due("soonest(15, 0)", x.soonest(15, 0), 34);
        Due.due("soonest(15, 1)", x.soonest(15, 1), 20);
        Due.due("soonest(4, 0)", x.soonest(4, 0), 34);
        Due.due("soonest(2, 0)", x.soonest(2, 0), 9 + 12 + 20 + 8 + 15 + 2 + 2);
        Due.due("soonest(2, 1)", x.soonest(2, 1), 10);
        Due.due("soonest(1, 0)", x.soonest(1, 0), Due.NONE);
        Due.due("soonest(1, 1)", x.soonest(1, 1), Due.NONE);
        Due.due("soonest(0, 0)", x.soonest(0, 0), Due.NONE);
        Due.due("no such lifters", x.soonest(16, 0), Due.BAD);
        Due.due("no such lifters", x.soonest(-1, 0), Due.BAD);
        Due.due("what", x.soonest(15, 2), Due.BAD);
        Due.due("what", x.soonest(15, -1), Due.BAD);
        Due.due("nothing changes", x.stand(2), 31);
        NineDown y = Due.told("y1,0,0;k5,1;t5;");
        Due.due("no such lifters", y.soonest(2, 0), Due.BAD);
        Due.due("soonest", y.soonest(1, 1), 0);
        y.lift(0, 0);
        Due.due("all are UP", y.soonest(1, 0), 0);
        Due.due("all are UP", y.soonest(1, 1), Due.NONE);
        Due.due("all are UP, by none", y.soonest(0, 0), 0);
    }

    private static void gentlest() {
        NineDown x = new NineDown();
        Due.due("STATE ahead of BAD", x.gentlest(99, 9), Due.STATE);
        Due.tell(x, Due.FIVE);
        Due.due("gentlest(15, 0)", x.gentlest(15, 0), 0);
        Due.due("gentlest(15, 1)", x.gentlest(15, 1), 44);
        Due.due("gentlest(15, 2)", x.gentlest(15, 2), 10);
        Due.due("gentlest(4, 0)", x.gentlest(4, 0), 2);
        Due.due("gentlest(4, 1)", x.gentlest(4, 1), 34);
        Due.due("gentlest(4, 2)", x.gentlest(4, 2), 20);
        for (int what = 0; what < 3; what++) {
            Due.due("gentlest(9)", x.gentlest(9, what), Due.NONE);
        }
        Due.due("no such lifters", x.gentlest(16, 0), Due.BAD);
        Due.due("no such lifters", x.gentlest(-1, 0), Due.BAD);
        Due.due("what", x.gentlest(15, 3), Due.BAD);
        Due.due("what", x.gentlest(15, -1), Due.BAD);
        NineDown y = Due.told("y1,0,0;k5,1;t5;");
        y.lift(0, 0);
        Due.due("all are UP", y.gentlest(1, 0), 0);
        Due.due("all are UP", y.gentlest(1, 1), 0);
        Due.due("all are UP", y.gentlest(1, 2), Due.NONE);
    }

    private static void ties() {
        NineDown x = Due.told("y1,0,0;k6,1;k6,1;t9;f9;g9;p9;");
        Due.due("the first of several", x.soonest(15, 0), 6);
        Due.due("the first of several", x.soonest(15, 1), 20);
        Due.due("of these two", x.soonest(3, 1), 0);
        Due.due("of this one", x.soonest(8, 1), 30);
        NineDown y = Due.told("y1,3,0;k6,1;k6,1;c0,1;o0,1;t9;f9;");
        Due.due("as soon", y.soonest(3, 0), 15);
        Due.due("the least lifter", y.soonest(3, 1), 0);
        Due.due("but this falls", y.gentlest(3, 2), 10);
        Due.due("the rest by either", y.gentlest(3, 1), 15);
        NineDown z = Due.told("y1,0,0;k6,1;k6,1;k6,1;o1,0;o2,1;g1;p3;");
        Due.due("the bike's number counts", z.soonest(2, 1), 12);
        Due.due("the bike's number counts", z.gentlest(3, 2), 12);
    }

    private static void nevers() {
        NineDown x = new NineDown();
        Due.due("STATE ahead of BAD", x.never(99), Due.STATE);
        Due.tell(x, Due.FIVE);
        Due.due("never(15)", x.never(15), 0);
        Due.due("never(1)", x.never(1), 20);
        Due.due("never(8)", x.never(8), 31);
        Due.due("never(9)", x.never(9), 20);
        Due.due("never(0)", x.never(0), 31);
        Due.due("never(16)", x.never(16), Due.BAD);
        Due.due("never(-1)", x.never(-1), Due.BAD);
        x.lift(2, 4);
        Due.due("UP", x.never(1), 4);
        Due.due("one that goes", x.never(8), 30 - 16);
    }

    private static void fetches() {
        NineDown x = new NineDown();
        Due.due("STATE ahead of BAD", x.fetch(9), Due.STATE);
        Due.tell(x, Due.FIVE);
        Due.due("fetch(0)", x.fetch(0), 1);
        Due.due("fetch(1)", x.fetch(1), 2);
        Due.due("what", x.fetch(2), Due.BAD);
        Due.due("what", x.fetch(-1), Due.BAD);
        NineDown y = Due.told("y1,0,0;k10,1;k30,1;o1,0;c0,1;g30;t10;t9;f30;");
        Due.due("one", y.fetch(1), 8);
        NineDown z = Due.told("y1,0,0;k10,1;k30,1;k4,1;c0,1;g30;t10;t9;g4;");
        Due.due("two", z.fetch(0), 2);
        Due.due("which", z.fetch(1), 3);
        NineDown w = Due.told("y1,0,0;k10,1;t9;");
        Due.due("none", w.fetch(0), Due.NONE);
        Due.due("none", w.fetch(1), Due.NONE);
        NineDown u = Due.told("y1,0,0;k10,1;g9;g10;");
        Due.due("a later one alone", u.fetch(0), 1);
        Due.due("a later one alone", u.fetch(1), 2);
        NineDown v = Due.told("y1,0,0;k9,1;t9;");
        v.lift(0, 0);
        Due.due("all are UP", v.fetch(0), 0);
        Due.due("all are UP", v.fetch(1), 0);
    }

    private static void layers() {
        NineDown x = Due.told(
            "y1,0,0;k1,1;k1,1;k1,1;k1,1;k1,1;k1,1;k1,1;k1,1;o0,1;o1,2;o0,2;o3,4;o4,5;o5,3;o6,3;o5,7;o2,7;t9;");
        int[] due = {0, 1, 2, Due.NONE, Due.NONE, Due.NONE, 0, Due.NONE};
        for (int bike = 0; bike < 8; bike++) {
            Due.due("layer(" + bike + ")", x.layer(bike), due[bike]);
        }
        x.lift(0, 0);
        Due.due("UP", x.layer(0), Due.NONE);
        Due.due("layer", x.layer(1), 0);
        Due.due("layer", x.layer(2), 1);
        Due.due("no bike", x.layer(8), Due.BAD);
        Due.due("no bike", x.layer(-1), Due.BAD);
        NineDown y = Due.told("y1,0,0;k1,1;k1,1;k1,1;k1,1;o0,1;o1,2;o0,3;o2,3;t9;");
        Due.due("the greatest, and 1", y.layer(3), 3);
    }

    private static void fells() {
        NineDown x = Due.told(Due.FIVE);
        int[] right = {7, 6, 4, 24, 16};
        int[] left = {1, 3, 7, 8, 24};
        x.lift(1, 0);
        for (int bike = 0; bike < 5; bike++) {
            Due.due("fell(" + bike + ", 1)", x.fell(bike, 1), right[bike]);
            Due.due("fell(" + bike + ", 0)", x.fell(bike, 0), left[bike]);
        }
        Due.due("way", x.fell(0, 2), Due.BAD);
        Due.due("way", x.fell(0, -1), Due.BAD);
        Due.due("no bike", x.fell(5, 0), Due.BAD);
        Due.due("no bike", x.fell(-1, 1), Due.BAD);
        x.space(2, 3);
        Due.due("a gap less", x.fell(0, 1), 31);
        Due.due("a gap less", x.fell(4, 0), 31);
    }

    private static void firsts() {
        NineDown x = new NineDown();
        Due.due("STATE ahead of BAD", x.first(9, 0), Due.STATE);
        Due.tell(x, Due.FIVE);
        Due.due("no row", x.first(8, 0), Due.BAD);
        Due.due("no row", x.first(-1, 0), Due.BAD);
        Due.due("missing", x.first(0, 0), Due.NULL);
        Due.fill(x, 0, 0, 1, 1, 1, 0, 0, 0);
        Due.due("first", x.first(0, 0), 1 + 256 * 4);
        Due.due("first from 1 on", x.first(0, 1), 256 * 2);
        Due.due("beyond", x.first(0, 2), Due.PLACE);
        Due.due("below", x.first(0, -1), Due.PLACE);
        Due.fill(x, 0, 2, 0, 0, 0, 1, 1);
        Due.due("first", x.first(0, 0), 8 + 256 * 16);
        Due.fill(x, 0, 1, 0, 1, 1, 0, 0);
        Due.due("first", x.first(0, 0), 2);
        Due.fill(x, 0, 1, 0, 0, 0, 0, 0);
        Due.due("none", x.first(0, 0), 0);
        Due.fill(x, 0, 1, 1, 0, 1, 0, 0);
        Due.due("none", x.first(0, 0), 0);
        Due.fill(x, 0, 1, 0, 2, 2, 0, 0);
        Due.due("what is neither 1 nor 0 fits none", x.first(0, 0), 0);
    }

    private static void widens() {
        NineDown x = new NineDown();
        Due.due("STATE ahead of BAD", x.widen(0, 9), Due.STATE);
        Due.tell(x, Due.FIVE);
        int[][] due = {{3, 11}, {1, 1}, {0, 0}, {0, 0}};
        for (int m = 1; m <= 4; m++) {
            Due.due("widen(" + m + ", 0)", x.widen(m, 0), due[m - 1][0]);
            Due.due("widen(" + m + ", 1)", x.widen(m, 1), due[m - 1][1]);
        }
        Due.due("widen(8, 0)", x.widen(8, 0), 0);
        Due.due("m", x.widen(0, 0), Due.BAD);
        Due.due("m", x.widen(9, 0), Due.BAD);
        Due.due("what", x.widen(1, 2), Due.BAD);
        Due.due("what", x.widen(1, -1), Due.BAD);
        x.space(2, 3);
        Due.due("widen(2, 0)", x.widen(2, 0), 2);
        Due.due("widen(2, 1)", x.widen(2, 1), 5);
    }

    private static void plans() {
        NineDown x = new NineDown();
        Due.due("STATE ahead of BAD", x.plan(9, 0, 41, 9), Due.STATE);
        Due.tell(x, Due.FIVE);
        Due.due("no row", x.plan(8, 0, 0, 0), Due.BAD);
        Due.due("n", x.plan(0, 0, 41, 0), Due.BAD);
        Due.due("n", x.plan(0, 0, -1, 0), Due.BAD);
        Due.due("what", x.plan(0, 0, 0, 3), Due.BAD);
        Due.due("what", x.plan(0, 0, 0, -1), Due.BAD);
        Due.due("missing", x.plan(0, 0, 0, 0), Due.NULL);
        x.lift(1, 3);
        Due.fill(x, 0, 0, 20, 24, 21, 9, 22);
        int[] due = {3, 6 + 7 + 6, 1};
        for (int what = 0; what < 3; what++) {
            Due.due("plan " + what, x.plan(0, 0, 5, what), due[what]);
            Due.due("plan of none " + what, x.plan(0, 5, 0, what), 0);
            Due.due("plan of what can not be " + what, x.plan(0, 3, 2, what), 0);
        }
        Due.due("one", x.plan(0, 0, 1, 1), 6);
        Due.due("beyond", x.plan(0, 1, 5, 0), Due.PLACE);
        Due.due("below", x.plan(0, -1, 1, 0), Due.PLACE);
        Due.due("beyond, none", x.plan(0, 6, 0, 0), Due.PLACE);
        Due.due("nothing changes", x.stand(0), 10);
        Due.due("nothing changes", x.stand(2), 23);
        Due.fill(x, 0, 2, 10, 10, -1, 40, Integer.MIN_VALUE, Integer.MAX_VALUE);
        Due.due("not twice", x.plan(0, 0, 2, 0), 1);
        for (int i = 2; i < 6; i++) {
            Due.due("no lift", x.plan(0, i, 1, 0), 0);
        }
    }

    private static void whos() {
        NineDown x = new NineDown();
        Due.due("no lifter", x.who(0, 0, 0, 1), Due.BAD);
        Due.tell(x, Due.FIVE);
        Due.due("no lifter", x.who(4, 0, 0, 1), Due.BAD);
        Due.due("no row", x.who(0, 8, 0, 1), Due.BAD);
        Due.due("n", x.who(0, 0, 0, 0), Due.BAD);
        Due.due("n", x.who(0, 0, 0, 9), Due.BAD);
        Due.due("missing", x.who(0, 0, 0, 1), Due.NULL);
        Due.fill(x, 0, 1, 0, 6, 0, 12, 0, 11, 5, 1);
        Due.due("a pair", x.who(2, 0, 0, 1), 8);
        Due.due("one from the top", x.who(2, 0, 2, 1), 2);
        Due.due("one who frees", x.who(2, 0, 4, 1), 4);
        Due.due("no bike", x.who(2, 0, 6, 1), Due.BAD);
        Due.due("no bike, behind what can not be", x.who(2, 0, 0, 4), Due.BAD);
        Due.due("beyond", x.who(2, 0, 7, 1), Due.PLACE);
        Due.due("beyond", x.who(2, 0, 0, 5), Due.PLACE);
        Due.due("below", x.who(2, 0, -1, 1), Due.PLACE);
        x.loosen(3);
        Due.fill(x, 0, 1, 0, 9, 0, 4, 0, 8, 1, 6, 3, 4);
        Due.due("top and freeing", x.who(2, 0, 0, 1), 6);
        Due.due("pair and going", x.who(2, 0, 2, 1), 24);
        Due.due("note", x.who(2, 0, 4, 1), 32);
        Due.due("twice the same", x.who(2, 0, 0, 2), 0);
        Due.fill(x, 0, 1, 0, 4, 1, 7, 3, 4, 2, 10);
        Due.due("a pair, all of it", x.who(2, 0, 0, 4), 8);
        Due.due("a weaker one", x.who(3, 0, 0, 4), 0);
        Due.fill(x, 0, 2, 2, Due.NONE);
        Due.due("NONE is no SECONDS", x.who(0, 0, 0, 1), 0);
        Due.due("nothing changes", x.stand(2), 31);
    }

    private static void seen(int p, int n, int k, long above, long below) {
        NineDown x = new NineDown();
        Due.due("seen(" + p + ", " + n + ", " + k + ", 0)", x.seen(p, n, k, 0), above);
        Due.due("seen(" + p + ", " + n + ", " + k + ", 1)", x.seen(p, n, k, 1), below);
    }

    private static void seens() {
        seen(3, 4, 2, 3483, 10000);
        seen(5, 2, 1, 3, 4);
        seen(5, 2, 2, 1, 4);
        seen(0, 9, 1, 0, 1);
        seen(0, 9, 0, 1, 1);
        seen(0, 0, 0, 1, 1);
        seen(10, 9, 9, 1, 1);
        seen(1, 9, 9, 1, 1000000000L);
        seen(9, 9, 1, 999999999L, 1000000000L);
        seen(2, 9, 9, 1, 1953125);
        NineDown x = new NineDown();
        Due.due("p", x.seen(11, 1, 1, 0), Due.BAD);
        Due.due("p", x.seen(-1, 1, 1, 0), Due.BAD);
        Due.due("n", x.seen(1, 10, 1, 0), Due.BAD);
        Due.due("n", x.seen(1, -1, 0, 0), Due.BAD);
        Due.due("k", x.seen(1, 2, 3, 0), Due.BAD);
        Due.due("k", x.seen(1, 2, -1, 0), Due.BAD);
        Due.due("what", x.seen(1, 2, 1, 2), Due.BAD);
        Due.due("what", x.seen(1, 2, 1, -1), Due.BAD);
    }

    private static void drawns() {
        NineDown x = new NineDown();
        Due.due("STATE ahead of BAD", x.drawn(99, 0, 9), Due.STATE);
        Due.tell(x, Due.FIVE);
        int[] seconds = {0, 0, 17, 27, 27};
        int[] falls = {0, 0, 1, 1, 1};
        for (int n = 0; n < 5; n++) {
            Due.due("drawn(" + n + ", 1, 0)", x.drawn(n, 1, 0), seconds[n]);
            Due.due("drawn(" + n + ", 1, 1)", x.drawn(n, 1, 1), falls[n]);
        }
        Due.due("nothing changes", x.stand(2), 31);
        Due.due("nothing changes", x.stand(0), 0);
        Due.due("n", x.drawn(61, 1, 0), Due.BAD);
        Due.due("n", x.drawn(-1, 1, 0), Due.BAD);
        Due.due("seed", x.drawn(1, 0, 0), Due.BAD);
        Due.due("seed", x.drawn(1, 1000000, 0), Due.BAD);
        Due.due("what", x.drawn(1, 1, 2), Due.BAD);
        Due.due("what", x.drawn(1, 1, -1), Due.BAD);
        x.lift(0, 0);
        x.fall(0);
        Due.due("what was before does not count", x.drawn(3, 1, 0), 27);
        Due.due("what was before does not count", x.drawn(3, 1, 1), 1);
        NineDown z = Due.told("y1,0,0;k5,1;t5;");
        Due.due("one bike, lifted, fallen, lifted, fallen, lifted", z.drawn(3, 1, 0), 15);
        Due.due("one bike", z.drawn(3, 1, 1), 2);
        NineDown y = Due.told("y1,0,0;k1,1;");
        Due.due("no lifters", y.drawn(60, 999999, 0), 0);
        Due.due("no lifters", y.drawn(60, 999999, 1), 0);
    }
}
