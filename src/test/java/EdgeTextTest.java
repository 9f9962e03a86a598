/** Boundary cases of promises 6 to 8, and of TEXTS and FAULTS in part 1: each sentence by itself. */
public final class EdgeTextTest {
    private static final String LAW = "y1,0,0;";
    private static final String BIKE = "k1,1;";
    private static final String TWO = LAW + BIKE + BIKE;
    private static final String TEN = "o0,1;c0,1;o0,2;c0,2;o0,3;c0,3;o0,4;c0,4;o1,2;c1,2;";
    /** 8 + 8 * 7 + 9 * 5 + 7 + 4 bytes: the tape to its end. */
    private static final String WHOLE = "y9,9,20;" + Due.times("k30,20;", 8)
        + "o0,1;c0,1;o0,2;c0,2;o0,3;c0,3;o0,4;c0,4;o1,2;c01,02;t40;";

    public static void main(String[] args) {
        feed();
        tape();
        letters();
        doubled();
        numbers();
        law();
        bikes();
        holds();
        sameHolds();
        lifters();
        order();
        firstFault();
        ends();
        replaced();
        faulted();
        faultNumber();
        Due.end();
    }

    private static void faulty(String name, String text, int place, int number) {
        Due.test(name, () -> isFaulty(text, place, number));
    }

    private static void good(String name, String text, int bikes) {
        Due.test(name, () -> {
            NineDown x = new NineDown();
            Due.due("yard() of " + text, Due.tell(x, text), bikes);
            Due.due("fault() of " + text, x.fault(), 0);
            Due.due("count(1)", x.count(1), bikes);
        });
    }

    private static NineDown fullTape() {
        NineDown x = new NineDown();
        for (int i = 1; i <= 120; i++) {
            Due.due("feed " + i, x.feed('y'), i);
        }
        return x;
    }

    private static void feed() {
        Due.one("P6 feed: 0, the least byte", "", x -> x.feed(0), 1);
        Due.one("P6 feed: 255, the greatest byte", "", x -> x.feed(255), 1);
        Due.one("P6 feed: -1 is BAD", "", x -> x.feed(-1), Due.BAD);
        Due.one("P6 feed: 256 is BAD", "", x -> x.feed(256), Due.BAD);
        Due.one("P6 feed: the least number is BAD", "", x -> x.feed(Integer.MIN_VALUE), Due.BAD);
        Due.one("P6 feed: the greatest number is BAD", "", x -> x.feed(Integer.MAX_VALUE), Due.BAD);
        Due.test("P6 feed: BAD leaves the tape", () -> {
            NineDown x = new NineDown();
            x.feed('y');
            x.feed(256);
            x.feed(-1);
            Due.due("count(7)", x.count(7), 1);
            Due.due("feed", x.feed('1'), 2);
        });
        Due.test("P6 feed: the 120th byte", () -> Due.due("count(7)", fullTape().count(7), 120));
        Due.test("P6 feed: the 121st is FULL", () -> Due.due("feed", fullTape().feed('y'), Due.FULL));
        Due.test("P6 feed: BAD ahead of FULL, above", () -> Due.due("feed", fullTape().feed(256), Due.BAD));
        Due.test("P6 feed: BAD ahead of FULL, below", () -> Due.due("feed", fullTape().feed(-1), Due.BAD));
        Due.test("P6 feed: FULL leaves the tape", () -> {
            NineDown x = new NineDown();
            Due.feed(x, WHOLE);
            Due.due("FULL", x.feed(';'), Due.FULL);
            Due.due("FULL", x.feed('z'), Due.FULL);
            Due.due("count(7)", x.count(7), 120);
            Due.due("yard", x.yard(), 8);
        });
        Due.test("P6 feed: room again behind yard()", () -> {
            NineDown x = fullTape();
            x.yard();
            Due.due("feed", x.feed('y'), 1);
        });
    }

    private static void tape() {
        Due.test("P7 yard: a tape of 120 bytes is read to its end", () -> {
            NineDown x = new NineDown();
            Due.due("yard", Due.tell(x, WHOLE), 8);
            Due.due("holds", x.count(2), 10);
            Due.due("lifters", x.count(3), 1);
            Due.due("the last one's FORCE", x.takes(0, 7, 0), 30);
            Due.due("the last hold", x.hold(9, 2), 2);
        });
        Due.test("P7 yard: the end behind 120 bytes", () -> {
            NineDown x = new NineDown();
            Due.due("yard", Due.tell(x, "y9,9,20;" + Due.times("k30,20;", 8) + TEN + "t40;t1"), -1000100 - 120);
            Due.due("fault", x.fault(), 1);
        });
        Due.one("P7 yard: an empty tape, the end at 0", "", x -> x.yard(), -1000100);
        Due.test("P7 yard: the tape is empty behind a good one", () -> {
            NineDown x = Due.told(TWO);
            Due.due("count(7)", x.count(7), 0);
            Due.due("yard anew", x.yard(), -1000100);
        });
        Due.test("P7 yard: the tape is empty behind a FAULT", () -> {
            NineDown x = new NineDown();
            Due.due("yard", Due.tell(x, "yy"), -1000101);
            Due.due("count(7)", x.count(7), 0);
            Due.due("yard anew", Due.tell(x, TWO), 2);
        });
        Due.test("P7 yard: of an earlier, longer tape nothing is read", () -> {
            NineDown x = new NineDown();
            Due.tell(x, TWO + "t9;");
            Due.due("yard", Due.tell(x, LAW + BIKE), 1);
            Due.due("lifters", x.count(3), 0);
            Due.due("the end", Due.tell(x, LAW), -1000107);
        });
        Due.test("P7 yard: one BIKE is enough", () -> Due.due("yard", Due.tell(new NineDown(), LAW + BIKE), 1));
        Due.test("P7 yard: eight BIKES", () -> Due.due("yard", Due.tell(new NineDown(), LAW + Due.times(BIKE, 8)), 8));
    }

    private static void isFaulty(String text, int place, int number) {
        NineDown x = new NineDown();
        Due.due("yard() of " + text, Due.tell(x, text), -1000100 - place);
        Due.due("fault() of " + text, x.fault(), number);
        Due.due("no yard by " + text, x.stand(0), Due.STATE);
    }

    /** Each byte where only y can stand, where a number must, where a sign must, where parts begin. */
    private static void letters() {
        Due.test("part 1: each byte at the first place", () -> {
            for (char b = 0; b < 256; b++) {
                isFaulty("" + b, b == 'y' ? 1 : 0, 1);
            }
        });
        Due.test("part 1: each byte in place of REACH", () -> {
            for (char b = 0; b < 256; b++) {
                isFaulty("y" + b, b >= '1' && b <= '9' ? 2 : 1, b == '0' ? 2 : 1);
            }
        });
        Due.test("part 1: each byte in place of a sign", () -> {
            for (char b = 0; b < 256; b++) {
                boolean figure = b >= '0' && b <= '9';
                isFaulty("y1" + b, figure ? 1 : b == ',' ? 3 : 2, figure ? 2 : 1);
            }
        });
        Due.test("part 1: each byte behind a bike", () -> {
            for (char b = 0; b < 256; b++) {
                // a letter that begins a part is followed by the end
                isFaulty(LAW + BIKE + b, "koctfpgn".indexOf(b) >= 0 ? 13 : 12, 1);
            }
        });
        Due.test("part 1: each byte behind a lifter", () -> {
            for (char b = 0; b < 256; b++) {
                isFaulty(LAW + BIKE + "t1;" + b, "tfpgn".indexOf(b) >= 0 ? 16 : 15, 1);
            }
        });
    }

    /** A letter is a TOKEN by itself, also behind another one; what follows would be good without it. */
    private static void doubled() {
        faulty("part 1: two letters, y", "yy1,0,0;" + BIKE, 1, 1);
        faulty("part 1: two letters, k", LAW + "kk1,1;", 8, 1);
        faulty("part 1: two letters, k of a second bike", LAW + BIKE + "kk1,1;", 13, 1);
        faulty("part 1: two letters, o", TWO + "oo0,1;", 18, 1);
        faulty("part 1: two letters, c", TWO + "cc0,1;", 18, 1);
        faulty("part 1: two letters, o and c", TWO + "oc0,1;", 18, 1);
        faulty("part 1: two letters, o in place of B", TWO + "o0,o0,1;", 20, 1);
        for (char sort : "tfpgn".toCharArray()) {
            faulty("part 1: two letters, " + sort, LAW + BIKE + sort + sort + "1;", 13, 1);
            faulty("part 1: two letters, t and " + sort, LAW + BIKE + "t" + sort + "1;", 13, 1);
        }
        faulty("part 1: two signs", LAW + "k1,,1;", 10, 1);
    }

    private static void numbers() {
        good("part 1: a NUMBER of one figure", "y9,9,9;k9,9;t9;", 1);
        good("part 1: a NUMBER of two figures", "y9,9,20;k30,20;t40;", 1);
        good("part 1: a NUMBER of two figures that begins with 0", "y01,00,00;k01,01;k01,01;o00,01;t01;", 2);
        faulty("part 1: a run of three figures, at its first", "y001,0,0;k1,1;", 1, 1);
        faulty("part 1: a run of four figures, at its first", "y1,0,0001;k1,1;", 5, 1);
        faulty("part 1: three figures where none can stand", LAW + "123", 7, 1);
        faulty("part 1: three figures of too great a NUMBER: 1, the least FAULT", "y1,0,100;", 5, 1);
        faulty("part 1: a run to the end of the tape", LAW + "k" + Due.times("1", 112), 8, 1);
        faulty("part 1: a number that would wrap around", "y4294967297,0,0;k1,1;", 1, 1);
        faulty("part 1: a NUMBER has no sign", "y1,-0,0;k1,1;", 3, 1);
        faulty("part 1: two NUMBERS with nothing between can not be told", "y1,0,0;k1 1;", 9, 1);
        faulty("part 1: no blank", "y1, 0,0;k1,1;", 3, 1);
        faulty("part 1: no line's end", LAW + "\n" + BIKE, 7, 1);
        faulty("part 1: no capital letter", LAW + "K1,1;", 7, 1);
    }

    private static void law() {
        good("part 1: REACH 1", "y1,0,0;k1,1;", 1);
        good("part 1: REACH 9", "y9,0,0;k1,1;", 1);
        faulty("part 1: REACH 0", "y0,0,0;k1,1;", 1, 2);
        faulty("part 1: REACH 10", "y10,0,0;k1,1;", 1, 2);
        good("part 1: LOOSE 0", "y1,0,0;k1,1;", 1);
        good("part 1: LOOSE 9", "y1,9,0;k1,1;", 1);
        faulty("part 1: LOOSE 10", "y1,10,0;k1,1;", 3, 2);
        good("part 1: NOTE 0", "y1,0,0;k1,1;", 1);
        good("part 1: NOTE 20", "y1,0,20;k1,1;", 1);
        faulty("part 1: NOTE 21", "y1,0,21;k1,1;", 5, 2);
        faulty("part 1: law, no REACH", "y,0,0;", 1, 1);
        faulty("part 1: law, no LOOSE", "y1,,0;", 3, 1);
        faulty("part 1: law, no NOTE", "y1,0,;", 5, 1);
        faulty("part 1: law, ; in place of ,", "y1;0,0;", 2, 1);
        faulty("part 1: law, ; in place of the second ,", "y1,0;0;", 4, 1);
        faulty("part 1: law, , in place of ;", "y1,0,0,", 6, 1);
        faulty("part 1: law, a fourth NUMBER", "y1,0,0,0;", 6, 1);
        Due.test("part 1: the law's numbers are what is told", () -> {
            NineDown x = Due.told("y3,7,11;k4,3;k4,4;k4,1;c0,1;n9;f9;");
            Due.due("REACH", x.fell(0, 1), 3);
            Due.due("LOOSE", x.takes(1, 0, 0), 11);
            Due.due("NOTE", x.takes(0, 2, 0), 13);
        });
    }

    private static void bikes() {
        good("part 1: WEIGHT 1", LAW + "k1,1;", 1);
        good("part 1: WEIGHT 30", LAW + "k30,1;", 1);
        faulty("part 1: WEIGHT 0", LAW + "k0,1;", 8, 2);
        faulty("part 1: WEIGHT 31", LAW + "k31,1;", 8, 2);
        good("part 1: GAP 1", LAW + "k1,1;", 1);
        good("part 1: GAP 20", LAW + "k1,20;", 1);
        faulty("part 1: GAP 0", LAW + "k1,0;", 10, 2);
        faulty("part 1: GAP 21", LAW + "k1,21;", 10, 2);
        faulty("part 1: the last one's GAP counts, too", LAW + BIKE + "k1,0;", 15, 2);
        faulty("part 1: bike, no WEIGHT", LAW + "k,1;", 8, 1);
        faulty("part 1: bike, no GAP", LAW + "k1;", 9, 1);
        faulty("part 1: bike, no GAP behind ,", LAW + "k1,;", 10, 1);
        faulty("part 1: bike, a third NUMBER", LAW + "k1,1,1;", 11, 1);
        faulty("part 1: no bike, a hold", LAW + "o0,1;", 7, 1);
        faulty("part 1: no bike, a lifter", LAW + "t1;", 7, 1);
        faulty("part 1: no bike, the end", LAW, 7, 1);
        good("part 1: 8 bikes", LAW + Due.times(BIKE, 8), 8);
        faulty("part 1: 9 bikes, the letter of the ninth", LAW + Due.times(BIKE, 9), 47, 3);
        faulty("part 1: a ninth bike that is not whole is 3, too", LAW + Due.times(BIKE, 8) + "kk", 47, 3);
        faulty("part 1: a fault ahead of the ninth bike is told first", LAW + "k0,1;" + Due.times(BIKE, 8), 8, 2);
        Due.test("part 1: BIKES 0 .. 7, as told", () -> {
            NineDown x = Due.told(LAW + "k1,11;k2,12;k3,13;k4,14;k5,15;k6,16;k7,17;k8,18;");
            for (int bike = 0; bike < 8; bike++) {
                Due.due("WEIGHT", x.bike(bike, 0), 1 + bike);
                Due.due("GAP", x.bike(bike, 1), 11 + bike);
                Due.due("DOWN", x.bike(bike, 2), 1);
            }
            Due.due("no BIKE 8", x.bike(8, 0), Due.BAD);
        });
    }

    private static void holds() {
        good("part 1: hold, A 0 and B the last", TWO + "o0,1;", 2);
        good("part 1: hold, A the last and B 0", TWO + "o1,0;", 2);
        faulty("part 1: hold o, A is no BIKE", TWO + "o2,0;", 18, 2);
        faulty("part 1: hold o, B is no BIKE", TWO + "o0,2;", 20, 2);
        faulty("part 1: hold c, A is no BIKE", TWO + "c2,0;", 18, 2);
        faulty("part 1: hold c, B is no BIKE", TWO + "c0,2;", 20, 2);
        faulty("part 1: hold, BIKE 8 of 8", LAW + Due.times(BIKE, 8) + "o0,8;", 50, 2);
        good("part 1: hold, BIKE 7 of 8", LAW + Due.times(BIKE, 8) + "o0,7;", 8);
        faulty("part 1: hold o, A and B alike, at B", TWO + "o1,1;", 20, 2);
        faulty("part 1: hold c, A and B alike, at B", TWO + "c0,0;", 20, 2);
        faulty("part 1: hold, alike though told otherwise", TWO + "o1,01;", 20, 2);
        faulty("part 1: one bike can have no hold", LAW + BIKE + "c0,0;", 15, 2);
        faulty("part 1: hold, no A", TWO + "o,1;", 18, 1);
        faulty("part 1: hold, no B", TWO + "o0;", 19, 1);
        faulty("part 1: hold, a third NUMBER", TWO + "o0,1,0;", 21, 1);
        String five = LAW + Due.times(BIKE, 5);
        good("part 1: 10 holds, both sorts together", five + TEN, 5);
        faulty("part 1: an 11th hold o, its letter", five + TEN + "o1,3;", 82, 3);
        faulty("part 1: an 11th hold c, its letter", five + TEN + "c1,3;", 82, 3);
        faulty("part 1: an 11th hold that is none is 3, too", five + TEN + "c9", 82, 3);
        good("part 1: 10 holds of one sort", five + "o0,1;o0,2;o0,3;o0,4;o1,2;o1,3;o1,4;o2,3;o2,4;o3,4;", 5);
        faulty("part 1: 11 holds, of one sort but one", five + "o0,1;o0,2;o0,3;o0,4;o1,2;o1,3;o1,4;o2,3;o2,4;o3,4;c0,1;", 82, 3);
        good("part 1: a lifter behind 10 holds", five + TEN + "t1;", 5);
        Due.test("part 1: holds are numbered as told, both sorts together", () -> {
            NineDown x = Due.told(LAW + BIKE + BIKE + BIKE + "c2,1;o0,2;c1,0;");
            int[][] holds = {{1, 2, 1}, {0, 0, 2}, {1, 1, 0}};
            for (int hold = 0; hold < 3; hold++) {
                for (int what = 0; what < 3; what++) {
                    Due.due("hold(" + hold + ", " + what + ")", x.hold(hold, what), holds[hold][what]);
                }
            }
        });
        Due.test("part 1: A lies on B, not B on A", () -> {
            NineDown x = Due.told(TWO + "o0,1;");
            Due.due("A is FREE", x.bike(0, 3), 1);
            Due.due("B is not", x.bike(1, 3), 0);
        });
    }

    private static void sameHolds() {
        faulty("part 1: o of the same two, the same way", TWO + "o0,1;o0,1;", 25, 2);
        faulty("part 1: o of the same two, the other way", TWO + "o0,1;o1,0;", 25, 2);
        faulty("part 1: c of the same two, the same way", TWO + "c1,0;c1,0;", 25, 2);
        faulty("part 1: c of the same two, the other way", TWO + "c1,0;c0,1;", 25, 2);
        good("part 1: o and c of the same two", TWO + "o0,1;c0,1;", 2);
        good("part 1: c and o of the same two, the other way", TWO + "c0,1;o1,0;", 2);
        faulty("part 1: the same two, another hold between", LAW + Due.times(BIKE, 3) + "o0,1;c0,1;o1,2;c2,1;c1,0;", 45, 2);
        good("part 1: all pairs of three, both sorts", LAW + Due.times(BIKE, 3) + "o0,1;c0,1;o1,2;c2,1;o2,0;c0,2;", 3);
        good("part 1: a ring is told as any other", LAW + Due.times(BIKE, 3) + "o0,1;o1,2;o2,0;", 3);
        Due.test("part 1: holds of a YARD before are no holds of the next", () -> {
            NineDown x = Due.told(TWO + "o0,1;c0,1;");
            Due.due("yard", Due.tell(x, TWO + "o1,0;c1,0;"), 2);
            Due.due("yard", Due.tell(x, TWO + "o0,1;c0,1;"), 2);
        });
    }

    private static void lifters() {
        for (char sort : "tfpgn".toCharArray()) {
            good("part 1: lifter " + sort + ", FORCE 1", LAW + BIKE + sort + "1;", 1);
            good("part 1: lifter " + sort + ", FORCE 40", LAW + BIKE + sort + "40;", 1);
            faulty("part 1: lifter " + sort + ", FORCE 0", LAW + BIKE + sort + "0;", 13, 2);
            faulty("part 1: lifter " + sort + ", FORCE 41", LAW + BIKE + sort + "41;", 13, 2);
            faulty("part 1: a fifth lifter " + sort + ", its letter", LAW + BIKE + "t1;f1;p1;g1;" + sort + "1;", 24, 3);
        }
        faulty("part 1: lifter, no FORCE", LAW + BIKE + "t;", 13, 1);
        faulty("part 1: lifter, a second NUMBER", LAW + BIKE + "t1,1;", 14, 1);
        good("part 1: no lifter", LAW + BIKE, 1);
        good("part 1: 4 lifters", LAW + BIKE + "t1;t1;t1;t1;", 1);
        faulty("part 1: a fifth lifter that is not whole is 3, too", LAW + BIKE + "t1;t1;t1;t1;t", 24, 3);
        faulty("part 1: behind 4 lifters a letter that is no lifter is 1", LAW + BIKE + "t1;t1;t1;t1;k", 24, 1);
        faulty("part 1: behind 4 lifters a hold is 1", LAW + BIKE + "t1;t1;t1;t1;o", 24, 1);
        Due.test("part 1: LIFTERS 0 .. 3, as told", () -> {
            NineDown x = Due.told(LAW + BIKE + "n1;g1;p1;f1;");
            for (int one = 0; one < 4; one++) {
                Due.due("kind", x.kind(one), 5 - one);
            }
            Due.due("no LIFTER 4", x.kind(4), Due.BAD);
        });
    }

    private static void order() {
        faulty("part 1: a second law", LAW + BIKE + LAW, 12, 1);
        faulty("part 1: a bike behind a hold", TWO + "o0,1;" + BIKE, 22, 1);
        faulty("part 1: a bike behind a lifter", LAW + BIKE + "t1;" + BIKE, 15, 1);
        faulty("part 1: a ninth bike behind a hold cannot stand there: 1", LAW + Due.times(BIKE, 8) + "o0,1;" + BIKE, 52, 1);
        faulty("part 1: a hold behind a lifter", TWO + "t1;o0,1;", 20, 1);
        faulty("part 1: an 11th hold behind a lifter cannot stand there: 1", LAW + Due.times(BIKE, 5) + TEN + "t1;c1,3;", 85, 1);
        faulty("part 1: bikes ahead of the law", BIKE + LAW, 0, 1);
        faulty("part 1: a ; too many", LAW + BIKE + ";", 12, 1);
        faulty("part 1: a ; too many behind the law", LAW + ";" + BIKE, 7, 1);
        good("part 1: a lifter with no hold", LAW + BIKE + "t1;", 1);
        good("part 1: a hold with no lifter", TWO + "o0,1;", 2);
    }

    private static void firstFault() {
        faulty("part 1: of two FAULTS the first, 2 ahead of 1", "y0;", 1, 2);
        faulty("part 1: of two FAULTS the first, 1 ahead of 2", "y1;0", 2, 1);
        faulty("part 1: of two FAULTS the first, 2 ahead of 3", LAW + "k1,0;" + Due.times(BIKE, 8), 10, 2);
        faulty("part 1: of two FAULTS the first, 3 ahead of 1", LAW + Due.times(BIKE, 9) + "?", 47, 3);
        faulty("part 1: of two FAULTS the first, 2 ahead of the end", "y1,0,21", 5, 2);
        faulty("part 1: of two FAULTS the first, both 2", "y10,10,21;", 1, 2);
        faulty("part 1: a NUMBER's place is its first byte", LAW + "k31,1;", 8, 2);
        faulty("part 1: a NUMBER that cannot stand there is 1, whatever it is", LAW + "99;", 7, 1);
        faulty("part 1: A is at fault ahead of B", TWO + "o9,9;", 18, 2);
    }

    private static void ends() {
        String text = "y1,2,3;k4,5;k6,7;o0,1;c0,1;t8;";
        for (int n = 0; n < text.length(); n++) {
            String part = text.substring(0, n);
            boolean whole = n == 12 || n == 17 || n == 22 || n == 27;
            if (whole) {
                good("part 1: whole behind " + n + " bytes", part, n == 12 ? 1 : 2);
            } else {
                faulty("part 1: the end behind " + n + " bytes", part, n, 1);
            }
        }
    }

    private static void replaced() {
        String text = "y1,1,0;k1,1;k2,2;c0,1;t5;";
        // again and again: an object may use a YARD of before for the next but one
        Due.test("part 1: a YARD that is read: SECOND 0", () -> {
            NineDown x = Due.told(text);
            for (int i = 0; i < 4; i++) {
                x.lift(0, 0);
                x.drawn(9, 1, 0);
                Due.tell(x, text);
                Due.due("count(4)", x.count(4), 0);
                Due.due("stand(0)", x.stand(0), 0);
            }
        });
        Due.test("part 1: a YARD that is read: no FALLS", () -> {
            NineDown x = Due.told(text);
            for (int i = 0; i < 4; i++) {
                x.lift(0, 0);
                Due.due("one so far", x.count(5), 1);
                Due.tell(x, text);
                Due.due("count(5)", x.count(5), 0);
                Due.due("stand(1)", x.stand(1), 0);
            }
        });
        Due.test("part 1: a YARD that is read: all are DOWN", () -> {
            NineDown x = Due.told(text);
            for (int i = 0; i < 4; i++) {
                x.lift(0, 0);
                Due.tell(x, text);
                Due.due("stand(2)", x.stand(2), 3);
            }
        });
        Due.test("part 1: a YARD that is read: only its own are DOWN", () -> {
            NineDown x = new NineDown();
            for (int i = 0; i < 3; i++) {
                Due.tell(x, LAW + Due.times(BIKE, 8));
            }
            for (int i = 0; i < 3; i++) {
                Due.tell(x, LAW + BIKE);
                Due.due("stand(2)", x.stand(2), 1);
                Due.due("stand(3)", x.stand(3), 1);
            }
        });
        Due.test("part 1: a YARD that is read: all holds hold", () -> {
            NineDown x = Due.told(text);
            for (int i = 0; i < 4; i++) {
                x.loosen(0);
                Due.tell(x, text);
                Due.due("not LOOSE", x.hold(0, 3), 0);
                Due.due("CATCHES", x.bike(0, 4), 1);
                Due.due("CATCHES", x.bike(1, 4), 1);
            }
        });
        Due.test("part 1: a YARD that is read: no ACT can be undone", () -> {
            NineDown x = Due.told(text);
            x.lift(0, 0);
            x.space(0, 9);
            Due.tell(x, text);
            Due.due("count(6)", x.count(6), 0);
            Due.due("undo", x.undo(), Due.STATE);
            Due.due("stand(2)", x.stand(2), 3);
            Due.due("GAP", x.bike(0, 1), 1);
        });
        Due.test("part 1: a YARD stands in place of the one before", () -> {
            NineDown x = Due.told(Due.FIVE);
            Due.due("yard", Due.tell(x, "y9,0,0;k30,9;"), 1);
            Due.due("BIKES", x.count(1), 1);
            Due.due("holds", x.count(2), 0);
            Due.due("LIFTERS", x.count(3), 0);
            Due.due("no BIKE 1", x.bike(1, 0), Due.BAD);
            Due.due("no hold 0", x.hold(0, 0), Due.BAD);
            Due.due("no LIFTER 0", x.kind(0), Due.BAD);
            Due.due("WEIGHT", x.bike(0, 0), 30);
            Due.due("FREE", x.stand(3), 1);
        });
        Due.test("part 1: rows, the tape's count, IMAGES and THE TRACE are none of the YARD", () -> {
            NineDown x = Due.told(Due.FIVE);
            x.row(4, 1, 6);
            x.image(1);
            x.ask(0, 1);
            Due.tell(x, text);
            Due.due("rows", x.count(0), 1);
            Due.due("trace", x.trace(0), 21);
            Due.due("restore", x.restore(1), 1);
            Due.due("BIKES", x.count(1), 5);
        });
    }

    private static void faulted() {
        Due.test("P7 yard: by a FAULT all stays", () -> {
            NineDown x = Due.told(Due.FIVE);
            x.lift(2, 0);
            x.loosen(2);
            x.space(4, 19);
            Due.due("fault", Due.tell(x, "y9,9,9;k1,1;k1,1;o0,1;c0,1;t1;t1;t41;"), -1000134);
            int[] due = {0, 5, 4, 4, 8, 1, 3, 0};
            for (int what = 0; what < 8; what++) {
                Due.due("count(" + what + ")", x.count(what), due[what]);
            }
            Due.due("WEIGHT", x.bike(0, 0), 9);
            Due.due("GAP", x.bike(4, 1), 19);
            Due.due("DOWN", x.stand(2), 30);
            Due.due("LOOSE", x.hold(2, 3), 1);
            Due.due("REACH", x.fell(1, 1), 6);
            Due.due("kind", x.kind(3), 5);
            Due.due("undo", x.undo(), 2);
            Due.due("undo", x.undo(), 1);
            Due.due("undo", x.undo(), 0);
            Due.due("GAP", x.bike(4, 1), 3);
            Due.due("DOWN", x.stand(2), 31);
            Due.due("LOOSE", x.hold(2, 3), 0);
            Due.due("SECONDS", x.stand(0), 0);
        });
        Due.test("P7 yard: by a FAULT there is no YARD yet", () -> {
            NineDown x = new NineDown();
            Due.due("fault", Due.tell(x, LAW + BIKE + "?"), -1000112);
            Due.due("stand", x.stand(0), Due.STATE);
            Due.due("BIKES", x.count(1), 0);
            Due.due("bike", x.bike(0, 0), Due.BAD);
        });
        Due.test("P7 yard: a good one behind a FAULT", () -> {
            NineDown x = new NineDown();
            Due.tell(x, LAW + BIKE + BIKE + "o0,1;t9;?");
            Due.due("yard", Due.tell(x, LAW + BIKE + BIKE), 2);
            Due.due("holds", x.count(2), 0);
            Due.due("LIFTERS", x.count(3), 0);
            Due.due("FREE", x.stand(3), 3);
        });
    }

    private static void faultNumber() {
        Due.test("P8 fault: the latest one's", () -> {
            NineDown x = new NineDown();
            Due.tell(x, "y0");
            Due.due("fault", x.fault(), 2);
            Due.tell(x, LAW + Due.times(BIKE, 9));
            Due.due("fault", x.fault(), 3);
            Due.tell(x, "");
            Due.due("fault", x.fault(), 1);
        });
        Due.test("P8 fault: 0 behind a good YARD, before one", () -> Due.due("fault", Due.told(TWO).fault(), 0));
        Due.test("P8 fault: a good YARD is no FAULT, the latest stays", () -> {
            NineDown x = new NineDown();
            Due.tell(x, "y0");
            Due.tell(x, TWO);
            Due.due("fault", x.fault(), 2);
        });
        Due.test("P8 fault: a BAD feed is no FAULT", () -> {
            NineDown x = new NineDown();
            x.feed(256);
            Due.due("fault", x.fault(), 0);
        });
    }
}
