import java.util.function.ToLongFunction;

/** Boundary cases of promises 9 to 17, and of part 2: each sentence by itself. */
public final class EdgeDoneTest {
    private static final String LAW = "y1,5,7;";
    /** Two bikes caught in one another, the first on the second; one of each kind but one who goes. */
    private static final String CAUGHT = LAW + "k4,1;k5,2;o0,1;c0,1;t9;f9;p9;n9;";
    /** Three bikes with nothing between them. */
    private static final String THREE = LAW + "k9,1;k10,1;k11,1;";

    public static void main(String[] args) {
        free();
        catches();
        can();
        canNot();
        goers();
        takes();
        refusedTakes();
        lift();
        loosen();
        fall();
        space();
        bike();
        hold();
        stand();
        undo();
        undoesEach();
        undoesAlone();
        kept();
        forgotten();
        Due.end();
    }

    private static void free() {
        Due.one("part 2: FREE, nothing lies on it", THREE, x -> x.bike(0, 3), 1);
        Due.one("part 2: FREE, though it lies on another one", CAUGHT, x -> x.bike(0, 3), 1);
        Due.one("part 2: not FREE, one lies on it", CAUGHT, x -> x.bike(1, 3), 0);
        Due.one("part 2: FREE, though it is caught", LAW + "k1,1;k1,1;c0,1;", x -> x.stand(3), 3);
        Due.test("part 2: FREE, the one on it is UP", () -> {
            NineDown x = Due.told(CAUGHT);
            x.lift(0, 0);
            Due.due("FREE", x.bike(1, 3), 1);
            Due.due("bits", x.stand(3), 2);
        });
        Due.test("part 2: not FREE, one of two on it is UP", () -> {
            NineDown x = Due.told(LAW + "k1,1;k1,1;k1,1;o0,2;o1,2;t9;");
            x.lift(0, 0);
            Due.due("one lies on it yet", x.bike(2, 3), 0);
            x.lift(0, 1);
            Due.due("none does", x.bike(2, 3), 1);
        });
        Due.test("part 2: an UP one is not FREE", () -> {
            NineDown x = Due.told(THREE + "t40;");
            x.lift(0, 0);
            Due.due("bike", x.bike(0, 3), 0);
            Due.due("bits", x.stand(3), 6);
        });
        Due.test("part 2: not FREE, the one on it fell anew", () -> {
            NineDown x = Due.told(CAUGHT);
            x.lift(0, 0);
            x.fall(0);
            Due.due("bike", x.bike(1, 3), 0);
        });
        Due.test("part 2: one lies on it, not by others", () -> {
            NineDown x = Due.told(LAW + "k1,1;k30,1;k1,1;o0,1;o1,2;t9;p40;");
            x.lift(0, 0);
            Due.due("1 lies on 2", x.bike(2, 3), 0);
            x.lift(1, 1);
            x.fall(0);
            Due.due("0 does not", x.bike(2, 3), 1);
        });
    }

    private static void catches() {
        Due.one("part 2: no CATCHES", THREE, x -> x.bike(0, 4), 0);
        Due.one("part 2: CATCHES, told as A", CAUGHT, x -> x.bike(0, 4), 1);
        Due.one("part 2: CATCHES, told as B", CAUGHT, x -> x.bike(1, 4), 1);
        Due.one("part 2: what lies on is no CATCH", LAW + "k1,1;k1,1;o0,1;", x -> x.bike(0, 4), 0);
        Due.one("part 2: seven CATCHES, the most",
            LAW + Due.times("k1,1;", 8) + "c0,1;c2,0;c0,3;c4,0;c0,5;c6,0;c0,7;", x -> x.bike(0, 4), 7);
        Due.test("part 2: a LOOSE one is no CATCH", () -> {
            NineDown x = Due.told(CAUGHT);
            x.loosen(1);
            Due.due("A", x.bike(0, 4), 0);
            Due.due("B", x.bike(1, 4), 0);
        });
        Due.test("part 2: only the LOOSE one is none", () -> {
            NineDown x = Due.told(LAW + "k1,1;k1,1;k1,1;c0,1;c0,2;");
            x.loosen(0);
            Due.due("0", x.bike(0, 4), 1);
            Due.due("1", x.bike(1, 4), 0);
            Due.due("2", x.bike(2, 4), 1);
        });
        Due.test("part 2: with one that is UP there is no CATCH", () -> {
            NineDown x = Due.told(CAUGHT);
            x.lift(0, 0);
            Due.due("UP", x.bike(0, 4), 0);
            Due.due("the other one", x.bike(1, 4), 0);
            Due.due("the hold is not LOOSE by it", x.hold(1, 3), 0);
        });
        Due.test("part 2: with one that fell anew there is", () -> {
            NineDown x = Due.told(CAUGHT);
            x.lift(0, 0);
            x.fall(0);
            Due.due("0", x.bike(0, 4), 1);
            Due.due("1", x.bike(1, 4), 1);
        });
    }

    /** WEIGHT 10 by each sort, with a FORCE that just suffices, and one less. */
    private static void can() {
        for (char sort : "tfgn".toCharArray()) {
            Due.one("part 2: " + sort + " CAN, WEIGHT is FORCE", LAW + "k10,1;" + sort + "10;",
                x -> x.takes(0, 0, 0) == Due.NONE ? 0 : 1, 1);
            Due.one("part 2: " + sort + " can not, WEIGHT is 1 more than FORCE", LAW + "k10,1;" + sort + "9;",
                x -> x.takes(0, 0, 0), Due.NONE);
        }
        Due.one("part 2: p CAN, WEIGHT is twice FORCE", LAW + "k10,1;p5;", x -> x.takes(0, 0, 0), 5);
        Due.one("part 2: p can not, WEIGHT is 1 more than twice FORCE", LAW + "k11,1;p5;", x -> x.takes(0, 0, 0), Due.NONE);
        Due.one("part 2: the greatest WEIGHT by the greatest FORCE", LAW + "k30,1;t40;", x -> x.takes(0, 0, 0), 30);
        Due.one("part 2: the least WEIGHT by the least FORCE", LAW + "k1,1;t1;", x -> x.takes(0, 0, 0), 1);
    }

    private static void canNot() {
        for (char sort : "tfpgn".toCharArray()) {
            Due.one("part 2: " + sort + " can not, it is not FREE", LAW + "k1,1;k1,1;o0,1;" + sort + "40;",
                x -> x.takes(0, 1, 0), Due.NONE);
            Due.test("part 2: " + sort + " can not, it is UP", () -> {
                NineDown x = Due.told(LAW + "k1,1;" + sort + "40;");
                Due.due("it can", x.takes(0, 0, 0) == Due.NONE ? 0 : 1, 1);
                x.lift(0, 0);
                Due.due("takes", x.takes(0, 0, 0), Due.NONE);
                Due.due("lift", x.lift(0, 0), Due.STATE);
            });
        }
    }

    private static void goers() {
        for (char sort : "gn".toCharArray()) {
            String text = LAW + "k1,1;k1,1;c0,1;" + sort + "40;t9;";
            Due.one("part 2: " + sort + " can not, it has CATCHES", text, x -> x.takes(0, 0, 0), Due.NONE);
            Due.one("part 2: " + sort + " can not lift it then", text, x -> x.lift(0, 1), Due.STATE);
            Due.test("part 2: " + sort + " CAN, the hold is LOOSE", () -> {
                NineDown x = Due.told(text);
                x.loosen(0);
                Due.due("takes", x.takes(0, 0, 1), 0);
            });
            Due.test("part 2: " + sort + " CAN, the other one is UP", () -> {
                NineDown x = Due.told(text);
                x.lift(1, 1);
                Due.due("takes", x.takes(0, 0, 1), 0);
            });
            Due.one("part 2: " + sort + " CAN, it lies on another one", LAW + "k1,1;k1,1;o0,1;" + sort + "1;",
                x -> x.takes(0, 0, 1), 0);
        }
        for (char sort : "tfp".toCharArray()) {
            Due.one("part 2: " + sort + " CAN, though it has CATCHES", LAW + "k1,1;k1,1;c0,1;" + sort + "40;",
                x -> x.takes(0, 0, 0) == Due.NONE ? 0 : 1, 1);
        }
    }

    private static void took(String name, String text, int seconds, int falls) {
        Due.one("part 2: " + name + ": SECONDS", text, x -> x.takes(0, 0, 0), seconds);
        Due.one("part 2: " + name + ": FALLS", text, x -> x.takes(0, 0, 1), falls);
        Due.test("part 2: " + name + ": lifted", () -> {
            NineDown x = Due.told(text);
            Due.due("lift", x.lift(0, 0), seconds);
            Due.due("SECONDS", x.stand(0), seconds);
            Due.due("FALLS", x.stand(1), falls);
            Due.due("UP", x.bike(0, 2), 0);
        });
    }

    private static void takes() {
        String two = "k9,1;k1,1;k1,1;c0,1;c0,2;";
        took("t, no CATCH", LAW + "k9,1;t9;", 9, 0);
        took("t, two CATCHES", LAW + two + "t9;", 15, 2);
        took("f, no CATCH", LAW + "k9,1;f9;", 9, 0);
        took("f, two CATCHES", LAW + two + "f9;", 19, 0);
        took("f, two CATCHES, LOOSE 0", "y1,0,7;" + two + "f9;", 9, 0);
        took("f, two CATCHES, LOOSE 9", "y1,9,7;" + two + "f9;", 27, 0);
        took("p, no CATCH, half of 9 is cut", LAW + "k9,1;p9;", 4, 0);
        took("p, half of 1 is cut to none", LAW + "k1,1;p9;", 0, 0);
        took("p, one CATCH, half of 9 and 3", LAW + "k9,1;k1,1;c0,1;p9;", 6, 1);
        took("p, two CATCHES, half of 15 is cut", LAW + two + "p9;", 7, 2);
        took("g, half of 9 is cut", LAW + "k9,1;g9;", 4, 0);
        took("g, half of 1 is cut to none", LAW + "k1,1;g9;", 0, 0);
        took("g, half of 30", LAW + "k30,1;g40;", 15, 0);
        took("n, half of 9 is cut, and NOTE", LAW + "k9,1;n9;", 11, 0);
        took("n, NOTE 0", "y1,5,0;k9,1;n9;", 4, 0);
        took("n, NOTE 20", "y1,5,20;k9,1;n9;", 24, 0);
    }

    private static void refusedTakes() {
        Due.one("P16 takes: LIFTER -1 is BAD", CAUGHT, x -> x.takes(-1, 0, 0), Due.BAD);
        Due.one("P16 takes: LIFTER 4 of 4 is BAD", CAUGHT, x -> x.takes(4, 0, 0), Due.BAD);
        Due.one("P16 takes: LIFTER 3 of 4", CAUGHT, x -> x.takes(3, 0, 0), Due.NONE);
        Due.one("P16 takes: BIKE -1 is BAD", CAUGHT, x -> x.takes(0, -1, 0), Due.BAD);
        Due.one("P16 takes: BIKE 2 of 2 is BAD", CAUGHT, x -> x.takes(0, 2, 0), Due.BAD);
        Due.one("P16 takes: what -1 is BAD", CAUGHT, x -> x.takes(0, 0, -1), Due.BAD);
        Due.one("P16 takes: what 2 is BAD", CAUGHT, x -> x.takes(0, 0, 2), Due.BAD);
        Due.one("P16 takes: BAD, though it can not be", CAUGHT, x -> x.takes(0, 1, 2), Due.BAD);
        Due.one("P16 takes: NONE for FALLS, too", CAUGHT, x -> x.takes(0, 1, 1), Due.NONE);
        Due.one("P16 takes: no YARD is BAD", "", x -> x.takes(0, 0, 0), Due.BAD);
        Due.one("P16 takes: no LIFTER is there", THREE, x -> x.takes(0, 0, 0), Due.BAD);
        Due.test("P16 takes: nothing changes", () -> {
            NineDown x = Due.told(CAUGHT);
            x.takes(0, 0, 0);
            x.takes(0, 0, 1);
            Due.due("SECONDS", x.stand(0), 0);
            Due.due("FALLS", x.stand(1), 0);
            Due.due("DOWN", x.stand(2), 3);
            Due.due("ACTS", x.count(6), 0);
        });
    }

    private static void lift() {
        Due.one("P10 lift: LIFTER -1 is BAD", CAUGHT, x -> x.lift(-1, 0), Due.BAD);
        Due.one("P10 lift: LIFTER 4 of 4 is BAD", CAUGHT, x -> x.lift(4, 0), Due.BAD);
        Due.one("P10 lift: LIFTER 0, the first", CAUGHT, x -> x.lift(0, 0), 7);
        Due.one("P10 lift: LIFTER 3 of 4, the last", LAW + "k4,1;t1;t1;t1;t4;", x -> x.lift(3, 0), 4);
        Due.one("P10 lift: BIKE -1 is BAD", CAUGHT, x -> x.lift(0, -1), Due.BAD);
        Due.one("P10 lift: BIKE 2 of 2 is BAD", CAUGHT, x -> x.lift(0, 2), Due.BAD);
        Due.one("P10 lift: BIKE 7 of 8, the last", LAW + Due.times("k4,1;", 8) + "t4;", x -> x.lift(0, 7), 4);
        Due.one("P10 lift: no YARD is BAD", "", x -> x.lift(0, 0), Due.BAD);
        Due.one("P10 lift: no LIFTER is there", THREE, x -> x.lift(0, 0), Due.BAD);
        Due.one("P10 lift: not FREE is STATE", CAUGHT, x -> x.lift(0, 1), Due.STATE);
        Due.one("P10 lift: too heavy is STATE", LAW + "k10,1;t9;", x -> x.lift(0, 0), Due.STATE);
        Due.one("P10 lift: BAD of a LIFTER ahead of STATE", CAUGHT, x -> x.lift(4, 1), Due.BAD);
        Due.test("P10 lift: SECONDS it takes, not SECONDS then", () -> {
            NineDown x = Due.told(THREE + "t40;");
            Due.due("the first", x.lift(0, 0), 9);
            Due.due("the second", x.lift(0, 1), 10);
            Due.due("SECONDS then", x.stand(0), 19);
        });
        Due.test("P10 lift: FALLS more", () -> {
            NineDown x = Due.told(LAW + "k1,1;k1,1;k1,1;c0,1;c0,2;c1,2;t9;");
            x.lift(0, 0);
            Due.due("FALLS", x.stand(1), 2);
            x.lift(0, 1);
            Due.due("FALLS", x.stand(1), 3);
            x.lift(0, 2);
            Due.due("FALLS", x.stand(1), 3);
        });
        Due.test("P10 lift: what is refused is no ACT", () -> {
            NineDown x = Due.told(CAUGHT);
            x.lift(0, 1);
            x.lift(4, 0);
            x.lift(0, 2);
            Due.due("ACTS", x.count(6), 0);
            Due.due("SECONDS", x.count(4), 0);
            Due.due("DOWN", x.stand(2), 3);
        });
        Due.test("P10 lift: one who frees leaves the hold as it is", () -> {
            NineDown x = Due.told(CAUGHT);
            Due.due("lift", x.lift(1, 0), 9);
            Due.due("not LOOSE", x.hold(1, 3), 0);
            x.fall(0);
            Due.due("caught anew", x.bike(0, 4), 1);
        });
    }

    private static void loosen() {
        Due.one("P11 loosen: hold -1 is BAD", CAUGHT, x -> x.loosen(-1), Due.BAD);
        Due.one("P11 loosen: hold 2 of 2 is BAD", CAUGHT, x -> x.loosen(2), Due.BAD);
        Due.one("P11 loosen: no hold is there", THREE, x -> x.loosen(0), Due.BAD);
        Due.one("P11 loosen: no YARD is BAD", "", x -> x.loosen(0), Due.BAD);
        Due.one("P11 loosen: one that lies on is STATE", CAUGHT, x -> x.loosen(0), Due.STATE);
        Due.one("P11 loosen: a caught one", CAUGHT, x -> x.loosen(1), 5);
        Due.test("P11 loosen: hold 9 of 10, the last", () -> {
            NineDown x = Due.told(LAW + Due.times("k1,1;", 5) + "o0,1;o0,2;o0,3;o0,4;o1,2;o1,3;o1,4;o2,3;o2,4;c3,4;");
            Due.due("loosen", x.loosen(9), 5);
            Due.due("LOOSE", x.hold(9, 3), 1);
            Due.due("none", x.loosen(10), Due.BAD);
        });
        Due.test("P11 loosen: one that is LOOSE is STATE", () -> {
            NineDown x = Due.told(CAUGHT);
            x.loosen(1);
            Due.due("again", x.loosen(1), Due.STATE);
            Due.due("SECONDS stay", x.stand(0), 5);
            Due.due("LOOSE yet", x.hold(1, 3), 1);
            Due.due("one ACT", x.count(6), 1);
        });
        Due.test("P11 loosen: SECONDS then", () -> {
            NineDown x = Due.told(LAW + "k1,1;k1,1;k1,1;c0,1;c0,2;t9;");
            x.loosen(0);
            Due.due("loosen", x.loosen(1), 10);
            Due.due("no FALL", x.stand(1), 0);
        });
        Due.test("P11 loosen: LOOSE 0 takes no SECOND, and is an ACT", () -> {
            NineDown x = Due.told("y1,0,0;k1,1;k1,1;c0,1;");
            Due.due("loosen", x.loosen(0), 0);
            Due.due("ACTS", x.count(6), 1);
            Due.due("undo", x.undo(), 0);
            Due.due("not LOOSE", x.hold(0, 3), 0);
        });
        Due.test("P11 loosen: with both UP", () -> {
            NineDown x = Due.told(LAW + "k1,1;k1,1;c0,1;f9;");
            x.lift(0, 0);
            x.lift(0, 1);
            Due.due("loosen", x.loosen(0), 12);
            Due.due("LOOSE", x.hold(0, 3), 1);
        });
        Due.test("P11 loosen: what is refused is no ACT", () -> {
            NineDown x = Due.told(CAUGHT);
            x.loosen(0);
            x.loosen(2);
            Due.due("ACTS", x.count(6), 0);
            Due.due("SECONDS", x.count(4), 0);
            Due.due("not LOOSE", x.hold(0, 3), 0);
        });
    }

    private static void fall() {
        Due.one("P12 fall: BIKE -1 is BAD", CAUGHT, x -> x.fall(-1), Due.BAD);
        Due.one("P12 fall: BIKE 2 of 2 is BAD", CAUGHT, x -> x.fall(2), Due.BAD);
        Due.one("P12 fall: no YARD is BAD", "", x -> x.fall(0), Due.BAD);
        Due.one("P12 fall: one that is DOWN is STATE", CAUGHT, x -> x.fall(0), Due.STATE);
        Due.test("P12 fall: FALLS then, those of lifts, too", () -> {
            NineDown x = Due.told(CAUGHT);
            x.lift(0, 0);
            Due.due("fall", x.fall(0), 2);
            Due.due("DOWN", x.stand(2), 3);
            Due.due("SECONDS stay", x.stand(0), 7);
        });
        Due.test("P12 fall: DOWN again is STATE again", () -> {
            NineDown x = Due.told(CAUGHT);
            x.lift(0, 0);
            x.fall(0);
            Due.due("again", x.fall(0), Due.STATE);
            Due.due("FALLS stay", x.stand(1), 2);
            Due.due("two ACTS", x.count(6), 2);
        });
        Due.test("P12 fall: its holds are as they were, LOOSE", () -> {
            NineDown x = Due.told(CAUGHT);
            x.loosen(1);
            x.lift(0, 0);
            x.fall(0);
            Due.due("LOOSE", x.hold(1, 3), 1);
            Due.due("no CATCH", x.bike(0, 4), 0);
        });
        Due.test("P12 fall: its holds are as they were, caught", () -> {
            NineDown x = Due.told(CAUGHT);
            x.lift(1, 0);
            x.fall(0);
            Due.due("not LOOSE", x.hold(1, 3), 0);
            Due.due("a CATCH", x.bike(0, 4), 1);
        });
        Due.test("P12 fall: its holds are as they were, on another one", () -> {
            NineDown x = Due.told(CAUGHT);
            x.lift(0, 0);
            x.lift(0, 1);
            x.fall(1);
            Due.due("FREE", x.bike(1, 3), 1);
            x.fall(0);
            Due.due("it lies on it again", x.bike(1, 3), 0);
        });
        Due.test("P12 fall: the last BIKE of eight", () -> {
            NineDown x = Due.told(LAW + Due.times("k4,1;", 8) + "t4;");
            x.lift(0, 7);
            Due.due("DOWN", x.stand(2), 127);
            Due.due("fall", x.fall(7), 1);
            Due.due("DOWN", x.stand(2), 255);
        });
    }

    private static void space() {
        Due.one("P13 space: BIKE -1 is BAD", THREE, x -> x.space(-1, 5), Due.BAD);
        Due.one("P13 space: BIKE 3 of 3 is BAD", THREE, x -> x.space(3, 5), Due.BAD);
        Due.one("P13 space: no YARD is BAD", "", x -> x.space(0, 5), Due.BAD);
        Due.one("P13 space: GAP 0 is BAD", THREE, x -> x.space(0, 0), Due.BAD);
        Due.one("P13 space: GAP -1 is BAD", THREE, x -> x.space(0, -1), Due.BAD);
        Due.one("P13 space: GAP 21 is BAD", THREE, x -> x.space(0, 21), Due.BAD);
        gap("GAP 1, the least", 0, 1);
        gap("GAP 20, the greatest", 0, 20);
        gap("the last BIKE's", 2, 7);
        Due.test("P13 space: BAD leaves the GAP, and is no ACT", () -> {
            NineDown x = Due.told(LAW + "k1,4;");
            x.space(0, 0);
            x.space(0, 21);
            x.space(1, 5);
            Due.due("GAP", x.bike(0, 1), 4);
            Due.due("ACTS", x.count(6), 0);
        });
        Due.test("P13 space: of one that is UP", () -> {
            NineDown x = Due.told(LAW + "k1,4;t1;");
            x.lift(0, 0);
            Due.due("space", x.space(0, 9), 4);
            Due.due("GAP", x.bike(0, 1), 9);
        });
        Due.test("P13 space: takes no SECOND, no FALL", () -> {
            NineDown x = Due.told(THREE);
            x.space(0, 9);
            Due.due("SECONDS", x.stand(0), 0);
            Due.due("FALLS", x.stand(1), 0);
        });
    }

    private static void gap(String name, int bike, int gap) {
        Due.test("P13 space: " + name, () -> {
            NineDown x = Due.told(LAW + "k1,4;k1,5;k1,6;");
            Due.due("what it was", x.space(bike, gap), 4 + bike);
            Due.due("what it is", x.bike(bike, 1), gap);
            Due.due("the next is as it was", x.bike((bike + 1) % 3, 1), 4 + (bike + 1) % 3);
            Due.due("what it was then", x.space(bike, 11), gap);
        });
    }

    private static void bike() {
        Due.one("P14 bike: BIKE -1 is BAD", CAUGHT, x -> x.bike(-1, 0), Due.BAD);
        Due.one("P14 bike: BIKE 2 of 2 is BAD", CAUGHT, x -> x.bike(2, 0), Due.BAD);
        Due.one("P14 bike: BIKE 1 of 2", CAUGHT, x -> x.bike(1, 0), 5);
        Due.one("P14 bike: no YARD is BAD", "", x -> x.bike(0, 0), Due.BAD);
        Due.one("P14 bike: what -1 is BAD", CAUGHT, x -> x.bike(0, -1), Due.BAD);
        Due.one("P14 bike: what 0", CAUGHT, x -> x.bike(0, 0), 4);
        Due.one("P14 bike: what 1", CAUGHT, x -> x.bike(1, 1), 2);
        Due.one("P14 bike: what 4", CAUGHT, x -> x.bike(0, 4), 1);
        Due.one("P14 bike: what 5 is BAD", CAUGHT, x -> x.bike(0, 5), Due.BAD);
        Due.test("P14 bike: UP, all of it", () -> {
            NineDown x = Due.told(CAUGHT);
            x.lift(0, 0);
            int[] due = {4, 1, 0, 0, 0};
            for (int what = 0; what < 5; what++) {
                Due.due("bike(0, " + what + ")", x.bike(0, what), due[what]);
            }
        });
    }

    private static void hold() {
        Due.one("P15 hold: hold -1 is BAD", CAUGHT, x -> x.hold(-1, 0), Due.BAD);
        Due.one("P15 hold: hold 2 of 2 is BAD", CAUGHT, x -> x.hold(2, 0), Due.BAD);
        Due.one("P15 hold: no YARD is BAD", "", x -> x.hold(0, 0), Due.BAD);
        Due.one("P15 hold: what -1 is BAD", CAUGHT, x -> x.hold(0, -1), Due.BAD);
        Due.one("P15 hold: what 4 is BAD", CAUGHT, x -> x.hold(0, 4), Due.BAD);
        Due.one("P15 hold: sort, lies on", CAUGHT, x -> x.hold(0, 0), 0);
        Due.one("P15 hold: sort, caught", CAUGHT, x -> x.hold(1, 0), 1);
        Due.one("P15 hold: A, as told", LAW + "k1,1;k1,1;c1,0;", x -> x.hold(0, 1), 1);
        Due.one("P15 hold: B, as told", LAW + "k1,1;k1,1;c1,0;", x -> x.hold(0, 2), 0);
        Due.one("P15 hold: one that lies on is never LOOSE", CAUGHT, x -> x.hold(0, 3), 0);
        Due.test("P15 hold: of UP ones they are as told", () -> {
            NineDown x = Due.told(CAUGHT);
            x.lift(0, 0);
            x.lift(0, 1);
            Due.due("sort", x.hold(1, 0), 1);
            Due.due("A", x.hold(1, 1), 0);
            Due.due("B", x.hold(1, 2), 1);
            Due.due("not LOOSE", x.hold(1, 3), 0);
        });
    }

    private static void stand() {
        ToLongFunction<NineDown> good = x -> x.stand(0);
        Due.one("P17 stand: no YARD is STATE", "", good, Due.STATE);
        Due.one("P17 stand: STATE ahead of BAD, above", "", x -> x.stand(4), Due.STATE);
        Due.one("P17 stand: STATE ahead of BAD, below", "", x -> x.stand(-1), Due.STATE);
        Due.one("P17 stand: what -1 is BAD", CAUGHT, x -> x.stand(-1), Due.BAD);
        Due.one("P17 stand: what 4 is BAD", CAUGHT, x -> x.stand(4), Due.BAD);
        Due.one("P17 stand: no SECOND so far", CAUGHT, good, 0);
        Due.one("P17 stand: no FALL so far", CAUGHT, x -> x.stand(1), 0);
        Due.one("P17 stand: all eight are DOWN", LAW + Due.times("k1,1;", 8), x -> x.stand(2), 255);
        Due.one("P17 stand: all eight are FREE", LAW + Due.times("k1,1;", 8), x -> x.stand(3), 255);
        Due.one("P17 stand: in a ring none is FREE", LAW + Due.times("k1,1;", 3) + "o0,1;o1,2;o2,0;", x -> x.stand(3), 0);
        Due.test("P17 stand: all are UP", () -> {
            NineDown x = Due.told(LAW + "k1,1;t1;");
            x.lift(0, 0);
            Due.due("DOWN", x.stand(2), 0);
            Due.due("FREE", x.stand(3), 0);
        });
    }

    private static void undo() {
        Due.one("P9 undo: no YARD is STATE", "", x -> x.undo(), Due.STATE);
        Due.one("P9 undo: no ACT is STATE", CAUGHT, x -> x.undo(), Due.STATE);
        Due.test("P9 undo: how many can be undone yet, down to 0", () -> {
            NineDown x = Due.told(CAUGHT);
            x.space(0, 2);
            x.space(0, 3);
            Due.due("undo", x.undo(), 1);
            Due.due("undo", x.undo(), 0);
            Due.due("none", x.undo(), Due.STATE);
            Due.due("count(6)", x.count(6), 0);
        });
        Due.test("P9 undo: the latest first", () -> {
            NineDown x = Due.told(CAUGHT);
            x.space(0, 2);
            x.space(0, 3);
            x.space(1, 4);
            x.undo();
            Due.due("1's", x.bike(1, 1), 2);
            Due.due("0's", x.bike(0, 1), 3);
            x.undo();
            Due.due("0's", x.bike(0, 1), 2);
            x.undo();
            Due.due("0's", x.bike(0, 1), 1);
        });
        Due.test("P9 undo: STATE changes nothing", () -> {
            NineDown x = Due.told(CAUGHT);
            x.lift(0, 0);
            x.undo();
            x.undo();
            Due.due("SECONDS", x.stand(0), 0);
            Due.due("FALLS", x.stand(1), 0);
            Due.due("DOWN", x.stand(2), 3);
            Due.due("an ACT behind it", x.lift(0, 0), 7);
            Due.due("undo", x.undo(), 0);
        });
        Due.test("P9 undo: what is undone is no ACT", () -> {
            NineDown x = Due.told(CAUGHT);
            x.space(0, 2);
            x.space(0, 3);
            x.undo();
            Due.due("count(6)", x.count(6), 1);
            x.space(0, 9);
            Due.due("undo", x.undo(), 1);
            Due.due("GAP", x.bike(0, 1), 2);
        });
        Due.test("P9 undo: what is foretold or asked is no ACT", () -> {
            NineDown x = Due.told(CAUGHT);
            x.row(0, 0, 2);
            x.soonest(15, 1);
            x.plan(0, 0, 1, 0);
            x.who(0, 0, 0, 1);
            x.drawn(60, 1, 0);
            x.image(0);
            x.ask(0, 0);
            x.feed('y');
            Due.due("count(6)", x.count(6), 0);
            Due.due("undo", x.undo(), Due.STATE);
        });
    }

    private static void undoesEach() {
        Due.test("P9 undo: a lift: DOWN, SECONDS and FALLS as ahead of it", () -> {
            NineDown x = Due.told(CAUGHT);
            x.loosen(1);
            x.undo();
            x.lift(2, 0);
            Due.due("SECONDS", x.stand(0), 3);
            Due.due("FALLS", x.stand(1), 1);
            Due.due("undo", x.undo(), 0);
            Due.due("SECONDS", x.stand(0), 0);
            Due.due("FALLS", x.stand(1), 0);
            Due.due("DOWN", x.stand(2), 3);
            Due.due("CATCHES", x.bike(0, 4), 1);
        });
        Due.test("P9 undo: a loosening: it holds, SECONDS as ahead of it", () -> {
            NineDown x = Due.told(CAUGHT);
            x.loosen(1);
            Due.due("undo", x.undo(), 0);
            Due.due("not LOOSE", x.hold(1, 3), 0);
            Due.due("CATCHES of A", x.bike(0, 4), 1);
            Due.due("CATCHES of B", x.bike(1, 4), 1);
            Due.due("SECONDS", x.stand(0), 0);
            Due.due("loosen anew", x.loosen(1), 5);
        });
        Due.test("P9 undo: a fall: UP, FALLS as ahead of it", () -> {
            NineDown x = Due.told(CAUGHT);
            x.lift(0, 0);
            x.fall(0);
            Due.due("undo", x.undo(), 1);
            Due.due("DOWN", x.stand(2), 2);
            Due.due("FALLS", x.stand(1), 1);
            Due.due("SECONDS", x.stand(0), 7);
            Due.due("fall anew", x.fall(0), 2);
        });
        Due.test("P9 undo: a GAP as ahead of it", () -> {
            NineDown x = Due.told(CAUGHT);
            x.space(1, 20);
            Due.due("undo", x.undo(), 0);
            Due.due("GAP", x.bike(1, 1), 2);
        });
    }

    /** All that an ACT can change. */
    private static long[] stood(NineDown x) {
        long[] all = new long[14];
        for (int i = 0; i < 3; i++) {
            all[i] = x.stand(i);
            all[3 + i] = x.bike(i, 1);
            all[6 + i] = x.bike(i, 4);
            all[9 + i] = x.hold(i, 3);
        }
        all[12] = x.stand(3);
        all[13] = x.bike(3, 1);
        return all;
    }

    /** An ACT behind others of all sorts: undone, all is as ahead of it, and the others are undone yet. */
    private static void undone(String name, ToLongFunction<NineDown> act) {
        Due.test("P9 undo: " + name + " and nothing else", () -> {
            NineDown x = Due.told(LAW + "k4,11;k5,12;k6,13;k7,14;c0,1;c1,2;c2,3;o0,1;t9;p9;");
            long[] first = stood(x);
            x.space(2, 3);
            x.lift(0, 0);
            x.fall(0);
            x.space(0, 9);
            x.lift(1, 3);
            x.loosen(2);
            long[] ahead = stood(x);
            Due.due("not refused", act.applyAsLong(x) > Due.NONE ? 1 : 0, 1);
            Due.due("undo", x.undo(), 6);
            Due.due("all is as ahead of it", java.util.Arrays.equals(stood(x), ahead) ? 1 : 0, 1);
            for (int i = 5; i >= 0; i--) {
                Due.due("undo", x.undo(), i);
            }
            Due.due("all is as at first", java.util.Arrays.equals(stood(x), first) ? 1 : 0, 1);
        });
    }

    private static void undoesAlone() {
        undone("a lift with FALLS", x -> x.lift(0, 0));
        undone("a lift by a pair", x -> x.lift(1, 2));
        undone("loosening hold 0", x -> x.loosen(0));
        undone("loosening hold 1", x -> x.loosen(1));
        undone("a fall", x -> x.fall(3));
        undone("a GAP", x -> x.space(1, 20));
        undone("the last one's GAP", x -> x.space(3, 1));
    }

    /** Acts of GAPS 1, 2, 3 .. by turns: the GAP tells how many ACTS there were. */
    private static NineDown spaced(int acts) {
        NineDown x = Due.told(LAW + "k1,20;");
        for (int i = 1; i <= acts; i++) {
            x.space(0, 1 + i % 19);
        }
        return x;
    }

    private static void kept() {
        Due.test("part 2: 23 ACTS are kept", () -> Due.due("count(6)", spaced(23).count(6), 23));
        Due.test("part 2: 24 ACTS are kept", () -> Due.due("count(6)", spaced(24).count(6), 24));
        Due.test("part 2: of 25 ACTS 24 are kept", () -> Due.due("count(6)", spaced(25).count(6), 24));
        Due.test("part 2: all of 24 can be undone", () -> {
            NineDown x = spaced(24);
            for (int i = 23; i >= 0; i--) {
                Due.due("undo", x.undo(), i);
                Due.due("GAP", x.bike(0, 1), i == 0 ? 20 : 1 + i % 19);
            }
            Due.due("none", x.undo(), Due.STATE);
        });
        Due.test("part 2: of 25 the oldest is forgotten", () -> {
            NineDown x = spaced(25);
            for (int i = 23; i >= 0; i--) {
                Due.due("undo", x.undo(), i);
                Due.due("GAP", x.bike(0, 1), 1 + (i + 1) % 19);
            }
            Due.due("none", x.undo(), Due.STATE);
            Due.due("GAP", x.bike(0, 1), 2);
        });
        Due.test("part 2: of 100 the oldest 76 are forgotten", () -> {
            NineDown x = spaced(100);
            for (int i = 23; i >= 0; i--) {
                Due.due("undo", x.undo(), i);
                Due.due("GAP", x.bike(0, 1), 1 + (i + 76) % 19);
            }
            Due.due("none", x.undo(), Due.STATE);
        });
        Due.test("part 2: undone ones make room", () -> {
            NineDown x = spaced(24);
            x.undo();
            x.undo();
            x.space(0, 20);
            x.space(0, 19);
            Due.due("count(6)", x.count(6), 24);
            for (int i = 23; i >= 0; i--) {
                Due.due("undo", x.undo(), i);
            }
            Due.due("GAP", x.bike(0, 1), 20);
        });
        Due.test("part 2: what is refused forgets none", () -> {
            NineDown x = spaced(24);
            x.space(0, 21);
            x.fall(0);
            for (int i = 23; i >= 0; i--) {
                Due.due("undo", x.undo(), i);
            }
            Due.due("GAP", x.bike(0, 1), 20);
        });
    }

    /** One ACT, then 24 others: it stands, and can not be undone. */
    private static NineDown behind(String text, ToLongFunction<NineDown> act) {
        NineDown x = Due.told(text);
        act.applyAsLong(x);
        for (int i = 1; i <= 24; i++) {
            x.space(1, 1 + i % 19);
        }
        for (int i = 23; i >= 0; i--) {
            Due.due("undo", x.undo(), i);
        }
        Due.due("none", x.undo(), Due.STATE);
        return x;
    }

    private static void forgotten() {
        Due.test("part 2: a lift that is forgotten stands", () -> {
            NineDown x = behind(CAUGHT, y -> y.lift(0, 0));
            Due.due("DOWN", x.stand(2), 2);
            Due.due("SECONDS", x.stand(0), 7);
            Due.due("FALLS", x.stand(1), 1);
        });
        Due.test("part 2: a loosening that is forgotten stands", () -> {
            NineDown x = behind(CAUGHT, y -> y.loosen(1));
            Due.due("LOOSE", x.hold(1, 3), 1);
            Due.due("SECONDS", x.stand(0), 5);
        });
        Due.test("part 2: a fall that is forgotten stands", () -> {
            NineDown x = behind(CAUGHT, y -> y.lift(0, 0) + y.fall(0));
            Due.due("DOWN", x.stand(2), 3);
            Due.due("FALLS", x.stand(1), 2);
        });
        Due.test("part 2: a GAP that is forgotten stands", () -> {
            NineDown x = behind(CAUGHT, y -> y.space(0, 13));
            Due.due("GAP", x.bike(0, 1), 13);
        });
    }
}
