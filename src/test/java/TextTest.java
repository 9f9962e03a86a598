/** Promises 6 to 8: the tape, and how it is read. */
public final class TextTest {
    private static final String LAW = "y1,0,0;";
    private static final String BIKE = "k1,1;";

    public static void main(String[] args) {
        Due.test("Text: tape", TextTest::tape);
        Due.test("Text: lawFaults", TextTest::lawFaults);
        Due.test("Text: bikeFaults", TextTest::bikeFaults);
        Due.test("Text: holdFaults", TextTest::holdFaults);
        Due.test("Text: lifterFaults", TextTest::lifterFaults);
        Due.test("Text: tokenFaults", TextTest::tokenFaults);
        Due.test("Text: standing", TextTest::standing);
        Due.end();
    }

    private static void faulty(String text, int place, int number) {
        NineDown x = new NineDown();
        Due.due("yard() of " + text, Due.tell(x, text), -1000100 - place);
        Due.due("fault() of " + text, x.fault(), number);
        Due.due("bytes behind " + text, x.count(7), 0);
        Due.due("no yard by " + text, x.stand(0), Due.STATE);
    }

    private static void good(String text, int bikes, int holds, int lifters) {
        NineDown x = new NineDown();
        Due.due("yard() of " + text, Due.tell(x, text), bikes);
        Due.due("fault() of " + text, x.fault(), 0);
        Due.due("bikes", x.count(1), bikes);
        Due.due("holds", x.count(2), holds);
        Due.due("lifters", x.count(3), lifters);
        Due.due("bytes", x.count(7), 0);
    }

    private static String times(String text, int n) {
        StringBuilder all = new StringBuilder();
        for (int i = 0; i < n; i++) {
            all.append(text);
        }
        return all.toString();
    }

    private static void tape() {
        NineDown x = new NineDown();
        Due.due("feed(-1)", x.feed(-1), Due.BAD);
        Due.due("feed(256)", x.feed(256), Due.BAD);
        for (int i = 1; i <= 120; i++) {
            Due.due("feed", x.feed(i % 2 == 0 ? 0 : 255), i);
        }
        Due.due("feed of a full one", x.feed(1), Due.FULL);
        Due.due("BAD ahead of FULL", x.feed(256), Due.BAD);
        Due.due("count(7)", x.count(7), 120);
        Due.due("yard", x.yard(), -1000100);
        Due.due("count(7)", x.count(7), 0);
        Due.due("feed", x.feed(1), 1);
    }

    private static void lawFaults() {
        faulty("", 0, 1);
        faulty("x", 0, 1);
        faulty("7", 0, 1);
        faulty("y", 1, 1);
        faulty("yy", 1, 1);
        faulty("y0,", 1, 2);
        faulty("y10,", 1, 2);
        faulty("y9;", 2, 1);
        faulty("y9,10,", 3, 2);
        faulty("y9,9;", 4, 1);
        faulty("y9,9,21;", 5, 2);
        faulty("y9,9,20", 7, 1);
        faulty("y9,9,20,", 7, 1);
        faulty("y9,9,20;", 8, 1);
        faulty("y9,9,20;o", 8, 1);
        faulty("y9,9,20;t9;", 8, 1);
        faulty("y9,9,20;y", 8, 1);
        good("y9,9,20;k1,1;", 1, 0, 0);
        good("y01,00,00;k30,20;", 1, 0, 0);
    }

    private static void bikeFaults() {
        faulty(LAW + "k", 8, 1);
        faulty(LAW + "k0,1;", 8, 2);
        faulty(LAW + "k31,1;", 8, 2);
        faulty(LAW + "k1;", 9, 1);
        faulty(LAW + "k1,0;", 10, 2);
        faulty(LAW + "k1,21;", 10, 2);
        faulty(LAW + "k1,1,", 11, 1);
        faulty(LAW + "k1,1;;", 12, 1);
        good(LAW + times(BIKE, 8), 8, 0, 0);
        faulty(LAW + times(BIKE, 9), 47, 3);
        faulty(LAW + times(BIKE, 8) + "k", 47, 3);
    }

    private static void holdFaults() {
        String two = LAW + BIKE + BIKE;
        good(two + "o0,1;c0,1;", 2, 2, 0);
        faulty(two + "o2,0;", 18, 2);
        faulty(two + "o0,2;", 20, 2);
        faulty(two + "o1,1;", 20, 2);
        faulty(two + "c1,1;", 20, 2);
        faulty(two + "o0;1", 19, 1);
        faulty(two + "o0,1;o0,1;", 25, 2);
        faulty(two + "o0,1;o1,0;", 25, 2);
        faulty(two + "c0,1;c1,0;", 25, 2);
        faulty(two + "c0,1;c0,1", 25, 2);
        faulty(two + "o0,1;k1,1;", 22, 1);
        faulty(LAW + BIKE + "o0,0;", 15, 2);
        String five = LAW + times(BIKE, 5);
        String ten = "o0,1;c0,1;o0,2;c0,2;o0,3;c0,3;o0,4;c0,4;o1,2;c1,2;";
        good(five + ten, 5, 10, 0);
        faulty(five + ten + "o1,3;", 82, 3);
        faulty(five + ten + "c9", 82, 3);
        faulty(five + ten + "k1,1;", 82, 1);
    }

    private static void lifterFaults() {
        String one = LAW + BIKE;
        good(one + "t1;f40;p1;g40;", 1, 0, 4);
        good(one + "n1;n1;n1;n1;", 1, 0, 4);
        faulty(one + "t0;", 13, 2);
        faulty(one + "t41;", 13, 2);
        faulty(one + "t1,", 14, 1);
        faulty(one + "t1", 14, 1);
        faulty(one + "t;", 13, 1);
        faulty(one + "t1;f1;p1;g1;n1;", 24, 3);
        faulty(one + "t1;f1;p1;g1;a", 24, 1);
        faulty(one + "t1;k1,1;", 15, 1);
        faulty(one + "t1;o0,1;", 15, 1);
        faulty(one + "t1;c0,1;", 15, 1);
        faulty(one + "a1;", 12, 1);
    }

    private static void tokenFaults() {
        faulty("y123,", 1, 1);
        faulty("y000,", 1, 1);
        faulty("y1,2,3456;", 5, 1);
        faulty(LAW + BIKE + "123", 12, 1);
        faulty(LAW + BIKE + "t999999999999999999999", 13, 1);
        faulty(" y1,0,0;k1,1;", 0, 1);
        faulty("y 1,0,0;k1,1;", 1, 1);
        faulty("Y1,0,0;k1,1;", 0, 1);
        faulty(LAW + "k1,1" + (char) 0, 11, 1);
        faulty(LAW + "k1,1:", 11, 1);
        faulty(LAW + "k-1,1;", 8, 1);
        faulty(LAW + BIKE + (char) 255, 12, 1);
        faulty("y10,0,x", 1, 2);
    }

    private static void standing() {
        NineDown x = Due.told(Due.FIVE);
        Due.due("lift", x.lift(1, 0), 11);
        Due.due("fault", Due.tell(x, "y1,0,0;k1,1;k0"), -1000113);
        Due.due("the yard stands", x.count(1), 5);
        Due.due("the seconds stand", x.count(4), 11);
        Due.due("the act stands", x.count(6), 1);
        Due.due("fault()", x.fault(), 2);
        Due.due("a new one", Due.tell(x, "y1,0,0;k1,1;k2,2;c0,1;t5;"), 2);
        Due.due("fault() stays", x.fault(), 2);
        Due.due("seconds", x.count(4), 0);
        Due.due("falls", x.count(5), 0);
        Due.due("acts", x.count(6), 0);
        Due.due("all are down", x.stand(2), 3);
        Due.due("holds hold", x.loosen(0), 0);
        Due.due("hold", x.hold(0, 3), 1);
        Due.due("the same", Due.tell(x, "y1,0,0;k1,1;k2,2;c0,1;t5;"), 2);
        Due.due("hold", x.hold(0, 3), 0);
        Due.due("catches", x.bike(0, 4), 1);
        Due.due("undo", x.undo(), Due.STATE);
        nothingIsLeft(x);
    }

    /** Of the yards before, both those that the object can have kept, nothing shows in the next. */
    private static void nothingIsLeft(NineDown x) {
        for (int i = 0; i < 3; i++) {
            Due.tell(x, Due.FIVE);
            x.lift(0, 0);
            x.loosen(2);
        }
        Due.tell(x, "y9,0,0;k1,1;k1,1;k1,1;");
        Due.due("down", x.stand(2), 7);
        Due.due("free", x.stand(3), 7);
        Due.due("seconds", x.stand(0), 0);
        Due.due("falls", x.stand(1), 0);
        Due.due("holds", x.count(2), 0);
        Due.due("lifters", x.count(3), 0);
        Due.due("catches", x.bike(1, 4), 0);
        Due.tell(x, "y9,0,0;k1,1;k1,1;k1,1;c0,1;c0,2;c1,2;");
        for (int hold = 0; hold < 3; hold++) {
            Due.due("holds", x.hold(hold, 3), 0);
            Due.due("catches", x.bike(hold, 4), 2);
        }
        Due.due("down", x.stand(2), 7);
    }
}
