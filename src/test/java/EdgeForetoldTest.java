/** Boundary cases of promises 18 to 25: each sentence by itself. */
public final class EdgeForetoldTest {
    private static final int MOST = Integer.MAX_VALUE, LEAST = Integer.MIN_VALUE;
    private static final String LAW = "y3,5,7;";
    private static final String EIGHT = Due.times("k30,3;", 8);
    private static final String CAUGHT = LAW + "k9,1;k4,1;c0,1;";
    private static final String RING = LAW + Due.times("k1,1;", 3) + "o0,1;o1,2;o2,0;";

    public static void main(String[] args) {
        soonestRefused();
        soonest();
        soonestFirst();
        gentlestRefused();
        gentlest();
        never();
        fetch();
        layer();
        fell();
        firstRefused();
        first();
        widen();
        widenWhich();
        Due.end();
    }

    private static NineDown up(String text, int... bikes) {
        NineDown x = Due.told(text);
        for (int bike : bikes) {
            Due.due("lift of " + bike, x.lift(0, bike) >= 0 ? 1 : 0, 1);
        }
        return x;
    }

    private static void soonestRefused() {
        Due.one("P18 soonest: no YARD is STATE", "", x -> x.soonest(0, 0), Due.STATE);
        Due.one("P18 soonest: STATE ahead of BAD of LIFTERS", "", x -> x.soonest(-1, 0), Due.STATE);
        Due.one("P18 soonest: STATE ahead of BAD of what", "", x -> x.soonest(0, 2), Due.STATE);
        Due.one("P18 soonest: LIFTERS -1 is BAD", CAUGHT + "t9;", x -> x.soonest(-1, 0), Due.BAD);
        Due.one("P18 soonest: the least LIFTERS are BAD", CAUGHT + "t9;", x -> x.soonest(LEAST, 0), Due.BAD);
        Due.one("P18 soonest: the greatest LIFTERS are BAD", CAUGHT + "t9;", x -> x.soonest(MOST, 0), Due.BAD);
        Due.one("P18 soonest: a LIFTER that is not there is BAD", CAUGHT + "t9;", x -> x.soonest(2, 0), Due.BAD);
        Due.one("P18 soonest: BAD, though others are there", CAUGHT + "t9;", x -> x.soonest(3, 0), Due.BAD);
        Due.one("P18 soonest: 16 is BAD with four", CAUGHT + "t9;t9;t9;t9;", x -> x.soonest(16, 0), Due.BAD);
        Due.one("P18 soonest: 15, all four", CAUGHT + "t9;t9;t9;t9;", x -> x.soonest(15, 0), 16);
        Due.one("P18 soonest: no LIFTER is there, 1 is BAD", CAUGHT, x -> x.soonest(1, 0), Due.BAD);
        Due.one("P18 soonest: what -1 is BAD", CAUGHT + "t9;", x -> x.soonest(1, -1), Due.BAD);
        Due.one("P18 soonest: what 2 is BAD", CAUGHT + "t9;", x -> x.soonest(1, 2), Due.BAD);
        Due.one("P18 soonest: BAD, though there is NONE", RING + "t9;", x -> x.soonest(1, 2), Due.BAD);
    }

    private static void soonest() {
        Due.one("P18 soonest: by no LIFTER NONE", CAUGHT + "t9;", x -> x.soonest(0, 0), Due.NONE);
        Due.one("P18 soonest: by no LIFTER no first lift", CAUGHT + "t9;", x -> x.soonest(0, 1), Due.NONE);
        Due.one("P18 soonest: no LIFTER is there, NONE by none", CAUGHT, x -> x.soonest(0, 0), Due.NONE);
        Due.one("P18 soonest: one too heavy: NONE", CAUGHT + "t8;", x -> x.soonest(1, 0), Due.NONE);
        Due.one("P18 soonest: one too heavy: no first lift", CAUGHT + "t8;", x -> x.soonest(1, 1), Due.NONE);
        Due.one("P18 soonest: just not too heavy", CAUGHT + "t9;", x -> x.soonest(1, 0), 16);
        Due.one("P18 soonest: a ring: NONE", RING + "t9;", x -> x.soonest(1, 0), Due.NONE);
        Due.test("P18 soonest: all are UP: 0", () -> Due.due("soonest", up(LAW + "k1,1;t1;", 0).soonest(1, 0), 0));
        Due.test("P18 soonest: all are UP, by none: 0", () -> Due.due("soonest", up(LAW + "k1,1;t1;", 0).soonest(0, 0), 0));
        Due.test("P18 soonest: all are UP: no first lift", () -> Due.due("soonest", up(LAW + "k1,1;t1;", 0).soonest(1, 1), Due.NONE));
        Due.one("P18 soonest: one behind another, not at once", LAW + "k9,1;k4,1;t9;t9;", x -> x.soonest(3, 0), 13);
        Due.one("P18 soonest: by lifts of theirs alone", LAW + "k10,1;t10;g10;", x -> x.soonest(1, 0), 10);
        Due.one("P18 soonest: by the faster of two", LAW + "k10,1;t10;g10;", x -> x.soonest(3, 0), 5);
        Due.one("P18 soonest: the order counts, 3 and 4, not 6 and 2", CAUGHT + "p9;", x -> x.soonest(1, 0), 7);
        Due.one("P18 soonest: FALLS as they come", CAUGHT + "t9;f9;", x -> x.soonest(3, 0), 16);
        Due.one("P18 soonest: one frees for one who goes", CAUGHT + "g9;t4;", x -> x.soonest(3, 0), 11);
        Due.one("P18 soonest: one who goes alone: NONE", CAUGHT + "g9;t4;", x -> x.soonest(1, 0), Due.NONE);
        Due.one("P18 soonest: a lift that takes no SECOND", LAW + "k1,1;g1;", x -> x.soonest(1, 0), 0);
        Due.one("P18 soonest: a lift that takes no SECOND is one", LAW + "k1,1;g1;", x -> x.soonest(1, 1), 0);
        Due.one("P18 soonest: the most there can be", "y1,9,20;" + EIGHT
            + "c0,1;c0,2;c0,3;c0,4;c0,5;c0,6;c0,7;c1,2;c1,3;c1,4;f30;", x -> x.soonest(1, 0), 8 * 30 + 10 * 9);
        Due.test("P18 soonest: from now on", () -> Due.due("soonest", up(CAUGHT + "t9;", 0).soonest(1, 0), 4));
        Due.test("P18 soonest: a LOOSE hold counts no more", () -> {
            NineDown x = Due.told(CAUGHT + "t9;");
            x.loosen(0);
            Due.due("soonest", x.soonest(1, 0), 13);
        });
        Due.test("P18 soonest: one fell anew", () -> {
            NineDown x = up(CAUGHT + "t9;", 0);
            x.fall(0);
            Due.due("soonest", x.soonest(1, 0), 16);
        });
    }

    private static void soonestFirst() {
        Due.one("P18 soonest: of several the least BIKE", LAW + "k4,1;k4,1;t4;", x -> x.soonest(1, 1), 0);
        Due.one("P18 soonest: of several the least LIFTER", LAW + "k4,1;f4;t4;", x -> x.soonest(3, 1), 0);
        Due.one("P18 soonest: the LIFTER counts ahead of the BIKE", LAW + "k9,1;k4,1;t4;f9;", x -> x.soonest(3, 1), 1);
        Due.one("P18 soonest: 10 times the LIFTER, and the BIKE", LAW + "k9,1;k4,1;o1,0;t1;t1;t1;t9;", x -> x.soonest(15, 1), 31);
        Due.one("P18 soonest: the last LIFTER and the last BIKE",
            LAW + EIGHT + "o7,0;o7,1;o7,2;o7,3;o7,4;o7,5;o7,6;t1;t1;t1;t30;", x -> x.soonest(15, 1), 37);
        Due.one("P18 soonest: a lesser lift that is not on such a row is not it", CAUGHT + "p9;", x -> x.soonest(1, 1), 1);
        Due.one("P18 soonest: a LIFTER that is not told is not it", LAW + "k4,1;t4;f4;", x -> x.soonest(2, 1), 10);
        Due.one("P18 soonest: what is not FREE is not it", LAW + "k4,1;k4,1;o1,0;t4;", x -> x.soonest(1, 1), 1);
    }

    private static void gentlestRefused() {
        Due.one("P19 gentlest: no YARD is STATE", "", x -> x.gentlest(0, 0), Due.STATE);
        Due.one("P19 gentlest: STATE ahead of BAD of LIFTERS", "", x -> x.gentlest(-1, 0), Due.STATE);
        Due.one("P19 gentlest: STATE ahead of BAD of what", "", x -> x.gentlest(0, 3), Due.STATE);
        Due.one("P19 gentlest: LIFTERS -1 is BAD", CAUGHT + "t9;", x -> x.gentlest(-1, 0), Due.BAD);
        Due.one("P19 gentlest: a LIFTER that is not there is BAD", CAUGHT + "t9;", x -> x.gentlest(2, 0), Due.BAD);
        Due.one("P19 gentlest: 16 is BAD with four", CAUGHT + "t9;t9;t9;t9;", x -> x.gentlest(16, 0), Due.BAD);
        Due.one("P19 gentlest: 15, all four", CAUGHT + "t9;t9;t9;t9;", x -> x.gentlest(15, 0), 1);
        Due.one("P19 gentlest: no LIFTER is there, 1 is BAD", CAUGHT, x -> x.gentlest(1, 0), Due.BAD);
        Due.one("P19 gentlest: what -1 is BAD", CAUGHT + "t9;", x -> x.gentlest(1, -1), Due.BAD);
        Due.one("P19 gentlest: what 3 is BAD", CAUGHT + "t9;", x -> x.gentlest(1, 3), Due.BAD);
        Due.one("P19 gentlest: BAD, though there is NONE", RING + "t9;", x -> x.gentlest(1, 3), Due.BAD);
    }

    private static void gentle(String name, String text, int lifters, int falls, int seconds, int lift) {
        int[] due = {falls, seconds, lift};
        String[] whats = {"FALLS", "SECONDS", "the first lift"};
        for (int i = 0; i < 3; i++) {
            int what = i;
            Due.one("P19 gentlest: " + name + ": " + whats[i], text, x -> x.gentlest(lifters, what), due[i]);
        }
    }

    private static void gentlest() {
        String all = "y1,9,20;k10,1;k10,1;c0,1;p10;f10;n10;";
        gentle("by no LIFTER", CAUGHT + "t9;", 0, Due.NONE, Due.NONE, Due.NONE);
        gentle("no LIFTER is there", CAUGHT, 0, Due.NONE, Due.NONE, Due.NONE);
        gentle("one too heavy", CAUGHT + "t8;", 1, Due.NONE, Due.NONE, Due.NONE);
        gentle("a ring", RING + "t9;", 1, Due.NONE, Due.NONE, Due.NONE);
        gentle("fewer FALLS, though it takes longer", CAUGHT + "t9;f9;", 3, 0, 18, 10);
        gentle("of the fewest FALLS the fewest SECONDS", all, 7, 0, 24, 10);
        gentle("FALLS, where they must be", all, 1, 1, 11, 0);
        gentle("one who leaves a note can not begin", all, 5, 1, 11, 0);
        gentle("one who leaves a note alone", all, 4, Due.NONE, Due.NONE, Due.NONE);
        gentle("a lesser lift that is not on such a row", CAUGHT + "p9;", 1, 1, 7, 1);
        gentle("the LIFTER counts ahead of the BIKE", LAW + "k9,1;k4,1;t4;f9;", 3, 0, 13, 1);
        gentle("the most FALLS there can be", "y1,9,20;" + EIGHT
            + "c0,1;c0,2;c0,3;c0,4;c0,5;c0,6;c0,7;c1,2;c1,3;c1,4;t30;", 1, 10, 270, 0);
        gentle("the most SECONDS there can be", "y1,9,20;" + EIGHT
            + "c0,1;c0,2;c0,3;c0,4;c0,5;c0,6;c0,7;c1,2;c1,3;c1,4;f30;", 1, 0, 330, 0);
        Due.test("P19 gentlest: all are UP: no FALLS", () -> Due.due("gentlest", up(LAW + "k1,1;t1;", 0).gentlest(1, 0), 0));
        Due.test("P19 gentlest: all are UP: no SECONDS", () -> Due.due("gentlest", up(LAW + "k1,1;t1;", 0).gentlest(1, 1), 0));
        Due.test("P19 gentlest: all are UP: no first lift", () -> Due.due("gentlest", up(LAW + "k1,1;t1;", 0).gentlest(1, 2), Due.NONE));
        Due.test("P19 gentlest: FALLS from now on", () -> {
            NineDown x = up(LAW + "k1,1;k1,1;k1,1;c0,1;c1,2;t9;", 0);
            Due.due("FALLS so far", x.stand(1), 1);
            Due.due("gentlest", x.gentlest(1, 0), 1);
            Due.due("SECONDS", x.gentlest(1, 1), 5);
        });
    }

    private static void never() {
        Due.one("P20 never: no YARD is STATE", "", x -> x.never(0), Due.STATE);
        Due.one("P20 never: STATE ahead of BAD", "", x -> x.never(-1), Due.STATE);
        Due.one("P20 never: LIFTERS -1 is BAD", CAUGHT + "t9;", x -> x.never(-1), Due.BAD);
        Due.one("P20 never: a LIFTER that is not there is BAD", CAUGHT + "t9;", x -> x.never(2), Due.BAD);
        Due.one("P20 never: 16 is BAD with four", CAUGHT + "t9;t9;t9;t9;", x -> x.never(16), Due.BAD);
        Due.one("P20 never: 15, all four", CAUGHT + "t9;t9;t9;t9;", x -> x.never(15), 0);
        Due.one("P20 never: no LIFTER is there, 1 is BAD", CAUGHT, x -> x.never(1), Due.BAD);
        Due.one("P20 never: by no LIFTER, all", LAW + EIGHT + "t30;", x -> x.never(0), 255);
        Due.one("P20 never: no LIFTER is there, all", CAUGHT, x -> x.never(0), 3);
        Due.one("P20 never: WEIGHT is FORCE", LAW + EIGHT + "t30;", x -> x.never(1), 0);
        Due.one("P20 never: WEIGHT is 1 more than FORCE", LAW + "k30,1;k29,1;t29;", x -> x.never(1), 1);
        Due.one("P20 never: what is beneath a heavy one", LAW + "k30,1;k1,1;k1,1;o0,1;t9;", x -> x.never(1), 3);
        Due.one("P20 never: what is beneath, by others, a heavy one", LAW + "k30,1;k1,1;k1,1;o0,1;o1,2;t9;", x -> x.never(1), 7);
        Due.one("P20 never: what a heavy one lies beneath comes UP", LAW + "k30,1;k1,1;o1,0;t9;", x -> x.never(1), 1);
        Due.one("P20 never: a ring", RING + "t9;", x -> x.never(1), 7);
        Due.one("P20 never: caught, by one who goes", CAUGHT + "g9;", x -> x.never(1), 3);
        Due.one("P20 never: caught, by one who goes with another", CAUGHT + "g9;t4;", x -> x.never(3), 0);
        Due.one("P20 never: a row of eight, the last on top", LAW + EIGHT
            + "o7,6;o6,5;o5,4;o4,3;o3,2;o2,1;o1,0;t30;", x -> x.never(1), 0);
        Due.one("P20 never: a row of eight, the first on top", LAW + EIGHT
            + "o0,1;o1,2;o2,3;o3,4;o4,5;o5,6;o6,7;t30;", x -> x.never(1), 0);
        Due.test("P20 never: UP ones are not among them", () -> {
            NineDown x = up(LAW + "k1,1;k30,1;t1;", 0);
            Due.due("never(0)", x.never(0), 2);
            Due.due("never(1)", x.never(1), 2);
        });
        Due.test("P20 never: all are UP", () -> Due.due("never", up(LAW + "k1,1;t1;", 0).never(0), 0));
    }

    private static void fetched(String name, String text, int many, int which) {
        Due.one("P21 fetch: " + name + ": how many", text, x -> x.fetch(0), many);
        Due.one("P21 fetch: " + name + ": which", text, x -> x.fetch(1), which);
    }

    private static void fetch() {
        Due.one("P21 fetch: no YARD is STATE", "", x -> x.fetch(0), Due.STATE);
        Due.one("P21 fetch: STATE ahead of BAD", "", x -> x.fetch(2), Due.STATE);
        Due.one("P21 fetch: what -1 is BAD", CAUGHT + "t9;", x -> x.fetch(-1), Due.BAD);
        Due.one("P21 fetch: what 2 is BAD", CAUGHT + "t9;", x -> x.fetch(2), Due.BAD);
        Due.one("P21 fetch: BAD, though there is NONE", RING + "t9;", x -> x.fetch(2), Due.BAD);
        fetched("no LIFTER is there", CAUGHT, Due.NONE, Due.NONE);
        fetched("too heavy for all", CAUGHT + "t8;t8;t8;t8;", Due.NONE, Due.NONE);
        fetched("a ring", RING + "t9;", Due.NONE, Due.NONE);
        fetched("of several the least", CAUGHT + "t9;t9;t9;t9;", 1, 1);
        fetched("the last one alone", CAUGHT + "t8;t8;t8;t9;", 1, 8);
        fetched("one alone is fewer, though greater bits", CAUGHT + "g9;t4;f9;", 1, 4);
        fetched("two", CAUGHT + "g9;t4;", 2, 3);
        fetched("two of several, the least", CAUGHT + "t4;g9;t4;g9;", 2, 3);
        fetched("two, not the first", CAUGHT + "t3;g8;t4;g9;", 2, 12);
        fetched("one alone, where others could help", LAW + "k9,1;k4,1;k20,1;c0,1;c1,2;c0,2;t4;g9;p10;n2;", 1, 4);
        Due.test("P21 fetch: all are UP: none", () -> Due.due("fetch", up(LAW + "k1,1;t1;", 0).fetch(0), 0));
        Due.test("P21 fetch: all are UP: no bits", () -> Due.due("fetch", up(LAW + "k1,1;t1;", 0).fetch(1), 0));
        Due.test("P21 fetch: only for those that are DOWN", () -> {
            NineDown x = up(LAW + "k9,1;k4,1;t9;t4;", 0);
            Due.due("fetch", x.fetch(1), 1);
            NineDown y = Due.told(LAW + "k9,1;k4,1;t4;t9;");
            Due.due("fetch", y.fetch(1), 2);
            y.lift(1, 0);
            Due.due("fetch", y.fetch(1), 1);
        });
    }

    private static void layers(String name, String text, int... due) {
        Due.test("P22 layer: " + name, () -> {
            NineDown x = Due.told(text);
            for (int bike = 0; bike < due.length; bike++) {
                Due.due("layer(" + bike + ")", x.layer(bike), due[bike]);
            }
        });
    }

    private static void layer() {
        Due.one("P22 layer: BIKE -1 is BAD", CAUGHT, x -> x.layer(-1), Due.BAD);
        Due.one("P22 layer: BIKE 2 of 2 is BAD", CAUGHT, x -> x.layer(2), Due.BAD);
        Due.one("P22 layer: no YARD is BAD", "", x -> x.layer(0), Due.BAD);
        layers("0 if it is FREE", CAUGHT, 0, 0);
        layers("1 more, down to 7", LAW + EIGHT + "o0,1;o1,2;o2,3;o3,4;o4,5;o5,6;o6,7;", 0, 1, 2, 3, 4, 5, 6, 7);
        layers("1 more, up from 7", LAW + EIGHT + "o7,6;o6,5;o5,4;o4,3;o3,2;o2,1;o1,0;", 7, 6, 5, 4, 3, 2, 1, 0);
        layers("than the greatest, the lesser one first", LAW + Due.times("k1,1;", 4) + "o0,3;o0,1;o1,2;o2,3;", 0, 1, 2, 3);
        layers("than the greatest, the greater one first", LAW + Due.times("k1,1;", 4) + "o0,1;o1,2;o2,3;o0,3;", 0, 1, 2, 3);
        layers("in a ring NONE", RING, Due.NONE, Due.NONE, Due.NONE);
        layers("beneath a ring NONE", LAW + Due.times("k1,1;", 5) + "o0,1;o1,2;o2,0;o2,3;o3,4;",
            Due.NONE, Due.NONE, Due.NONE, Due.NONE, Due.NONE);
        layers("on a ring 0", LAW + Due.times("k1,1;", 4) + "o0,1;o1,2;o2,0;o3,0;", Due.NONE, Due.NONE, Due.NONE, 0);
        layers("beneath a ring and a FREE one NONE", LAW + Due.times("k1,1;", 5) + "o0,1;o1,2;o2,0;o2,4;o3,4;",
            Due.NONE, Due.NONE, Due.NONE, 0, Due.NONE);
        layers("a ring of eight", LAW + EIGHT + "o0,1;o1,2;o2,3;o3,4;o4,5;o5,6;o6,7;o7,0;",
            Due.NONE, Due.NONE, Due.NONE, Due.NONE, Due.NONE, Due.NONE, Due.NONE, Due.NONE);
        Due.test("P22 layer: UP is NONE", () -> Due.due("layer", up(CAUGHT + "t9;", 0).layer(0), Due.NONE));
        Due.test("P22 layer: those that are UP count no more", () -> {
            NineDown x = up(LAW + Due.times("k1,1;", 4) + "o0,1;o1,2;o3,2;t1;", 0, 1);
            Due.due("layer(2)", x.layer(2), 1);
            x.lift(0, 3);
            Due.due("layer(2)", x.layer(2), 0);
            x.fall(0);
            Due.due("0 does not lie on 2", x.layer(2), 0);
            x.fall(1);
            Due.due("0 on 1 on 2", x.layer(2), 2);
        });
    }

    private static void fell() {
        String five = LAW + "k1,3;k1,4;k1,1;k1,2;k1,9;";
        Due.one("P23 fell: BIKE -1 is BAD", five, x -> x.fell(-1, 0), Due.BAD);
        Due.one("P23 fell: BIKE 5 of 5 is BAD", five, x -> x.fell(5, 0), Due.BAD);
        Due.one("P23 fell: way -1 is BAD", five, x -> x.fell(0, -1), Due.BAD);
        Due.one("P23 fell: way 2 is BAD", five, x -> x.fell(0, 2), Due.BAD);
        Due.one("P23 fell: no YARD is BAD", "", x -> x.fell(0, 0), Due.BAD);
        Due.one("P23 fell: to the right, GAP is REACH; 1 more than REACH ends it", five, x -> x.fell(0, 1), 3);
        Due.one("P23 fell: to the left, GAP is REACH", five, x -> x.fell(1, 0), 3);
        Due.one("P23 fell: to the left, GAP is 1 more than REACH", five, x -> x.fell(2, 0), 4);
        Due.one("P23 fell: to the right, GAP is 1 more than REACH", five, x -> x.fell(1, 1), 2);
        Due.one("P23 fell: to the left, and so on till a GAP", five, x -> x.fell(4, 0), 28);
        Due.one("P23 fell: to the right, and so on till the end", five, x -> x.fell(2, 1), 28);
        Due.one("P23 fell: the last one to the right", five, x -> x.fell(4, 1), 16);
        Due.one("P23 fell: the first one to the left", five, x -> x.fell(0, 0), 1);
        Due.one("P23 fell: the last one's GAP does not matter", LAW + "k1,1;k1,1;", x -> x.fell(1, 1), 2);
        Due.one("P23 fell: all eight to the right", LAW + EIGHT, x -> x.fell(0, 1), 255);
        Due.one("P23 fell: all eight to the left", LAW + EIGHT, x -> x.fell(7, 0), 255);
        Due.one("P23 fell: one alone", LAW + "k1,1;", x -> x.fell(0, 1), 1);
        Due.test("P23 fell: which are DOWN does not matter", () -> {
            NineDown x = up(five + "t1;", 0, 3);
            Due.due("to the right", x.fell(0, 1), 3);
            Due.due("to the left", x.fell(4, 0), 28);
            Due.due("nothing goes down by it", x.stand(2), 22);
            Due.due("no FALLS", x.stand(1), 0);
        });
        Due.test("P23 fell: by the GAPS of now", () -> {
            NineDown x = Due.told(five);
            x.space(1, 3);
            Due.due("to the right", x.fell(0, 1), 31);
            x.space(0, 4);
            Due.due("to the right", x.fell(0, 1), 1);
        });
    }

    private static void firstRefused() {
        Due.one("P24 first: no YARD is STATE", "", x -> x.first(0, 0), Due.STATE);
        Due.one("P24 first: STATE ahead of BAD", "", x -> x.first(8, 0), Due.STATE);
        Due.one("P24 first: STATE ahead of NULL", "", x -> x.first(0, -1), Due.STATE);
        Due.one("P24 first: ROW -1 is BAD", CAUGHT, x -> x.first(-1, 0), Due.BAD);
        Due.one("P24 first: ROW 8 is BAD", CAUGHT, x -> x.first(8, 0), Due.BAD);
        Due.one("P24 first: a ROW that is missing is NULL", CAUGHT, x -> x.first(0, 0), Due.NULL);
        Due.one("P24 first: BAD ahead of PLACE", CAUGHT, x -> x.first(8, -1), Due.BAD);
        Due.one("P24 first: NULL ahead of PLACE", CAUGHT, x -> x.first(0, -1), Due.NULL);
        place("i -1", 5, -1, Due.PLACE);
        place("the least i", 5, LEAST, Due.PLACE);
        place("the greatest i", 5, MOST, Due.PLACE);
        place("the last place that suffices", 5, 3, 0);
        place("the first place that does not", 5, 4, Due.PLACE);
        place("at the end", 5, 5, Due.PLACE);
        place("as many ITEMS as BIKES", 2, 0, 0);
        place("one ITEM fewer than BIKES", 1, 0, Due.PLACE);
        place("an empty ROW", 0, 0, Due.PLACE);
    }

    private static void place(String name, int n, int i, int want) {
        Due.test("P24 first: " + name, () -> {
            NineDown x = Due.told(LAW + "k1,1;k1,1;");
            x.row(7, 1, n);
            Due.due("first(7, " + i + ")", x.first(7, i), want);
        });
    }

    private static void fits(String name, String text, int want, int... items) {
        Due.test("P24 first: " + name, () -> {
            NineDown x = Due.told(text);
            Due.fill(x, 3, 2, items);
            Due.due("first", x.first(3, 0), want);
        });
    }

    private static void first() {
        String three = LAW + "k1,3;k1,4;k1,1;";
        fits("none went down", three, 0, 0, 0, 0);
        fits("two, by either end", three, 1 + 256 * 2, 1, 1, 0);
        fits("one alone, either way", three, 4 + 256 * 4, 0, 0, 1);
        fits("one alone, to the left", three, 256, 1, 0, 0);
        fits("one alone, to the right", three, 2, 0, 1, 0);
        fits("more than one makes go", three, 0, 1, 1, 1);
        fits("what is between stands", three, 0, 1, 0, 1);
        fits("beyond a GAP", three, 0, 0, 1, 1);
        fits("all eight", LAW + EIGHT, 1 + 256 * 128, 1, 1, 1, 1, 1, 1, 1, 1);
        fits("one of one", LAW + "k1,1;", 257, 1);
        fits("an ITEM 2 fits none", three, 0, 2, 2, 0);
        fits("an ITEM -1 fits none", three, 0, -1, -1, 0);
        fits("an ITEM 2 in place of a 0 fits none", three, 0, 1, 1, 2);
        fits("ITEMS of more bits fit none", three, 0, 65537, 65537, 0);
        Due.test("P24 first: from i on", () -> {
            NineDown x = Due.told(three);
            Due.fill(x, 3, 0, 0, 0, 1, 1, 0, 1);
            Due.due("from 2", x.first(3, 2), 1 + 256 * 2);
            Due.due("from 3", x.first(3, 3), 0);
            Due.due("from 1", x.first(3, 1), 0);
        });
        Due.test("P24 first: by the GAPS of now, whatever is DOWN", () -> {
            NineDown x = up(three + "t1;", 1);
            Due.fill(x, 3, 0, 1, 1, 1);
            Due.due("not yet", x.first(3, 0), 0);
            x.space(1, 3);
            Due.due("now", x.first(3, 0), 1 + 256 * 4);
        });
    }

    private static void widen() {
        Due.one("P25 widen: no YARD is STATE", "", x -> x.widen(1, 0), Due.STATE);
        Due.one("P25 widen: STATE ahead of BAD of m", "", x -> x.widen(0, 0), Due.STATE);
        Due.one("P25 widen: STATE ahead of BAD of what", "", x -> x.widen(1, 2), Due.STATE);
        Due.one("P25 widen: m 0 is BAD", CAUGHT, x -> x.widen(0, 0), Due.BAD);
        Due.one("P25 widen: m -1 is BAD", CAUGHT, x -> x.widen(-1, 0), Due.BAD);
        Due.one("P25 widen: m 9 is BAD", CAUGHT, x -> x.widen(9, 0), Due.BAD);
        Due.one("P25 widen: m 1, the least", CAUGHT, x -> x.widen(1, 0), 1);
        Due.one("P25 widen: m 8, the greatest", CAUGHT, x -> x.widen(8, 0), 0);
        Due.one("P25 widen: what -1 is BAD", CAUGHT, x -> x.widen(1, -1), Due.BAD);
        Due.one("P25 widen: what 2 is BAD", CAUGHT, x -> x.widen(1, 2), Due.BAD);
    }

    private static void wider(String name, String text, int m, int many, int which) {
        Due.one("P25 widen: " + name + ": how many", text, x -> x.widen(m, 0), many);
        Due.one("P25 widen: " + name + ": which", text, x -> x.widen(m, 1), which);
    }

    private static void widenWhich() {
        String all = LAW + EIGHT;
        wider("one alone", LAW + "k1,1;", 1, 0, 0);
        wider("all seven GAPS", all, 1, 7, 127);
        wider("by twos", all, 2, 3, 2 + 8 + 32);
        wider("by threes, of several the least", all, 3, 2, 2 + 16);
        wider("by fours", all, 4, 1, 8);
        wider("by fives, of several the least", all, 5, 1, 4);
        wider("by sevens, of several the least", all, 7, 1, 1);
        wider("just m go down", all, 8, 0, 0);
        wider("m more than BIKES", LAW + "k1,1;k1,1;", 3, 0, 0);
        wider("GAP is REACH", LAW + "k1,3;k1,1;", 1, 1, 1);
        wider("GAP is more than REACH already", LAW + "k1,4;k1,1;", 1, 0, 0);
        wider("beyond one that is wide already", LAW + "k1,1;k1,4;k1,1;k1,1;", 1, 2, 5);
        wider("the last one's GAP does not matter", LAW + "k1,4;k1,4;k1,1;", 1, 0, 0);
        Due.test("P25 widen: by the GAPS of now, whatever is DOWN", () -> {
            NineDown x = up(LAW + "k1,1;k1,1;k1,1;t1;", 1);
            Due.due("how many", x.widen(1, 0), 2);
            x.space(0, 4);
            Due.due("how many", x.widen(1, 0), 1);
            Due.due("which", x.widen(1, 1), 2);
            Due.due("nothing is widened", x.bike(1, 1), 1);
        });
    }
}
