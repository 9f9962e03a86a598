/** Boundary cases of promises 32 to 36, and of part 4: each sentence by itself. */
public final class EdgeAskedTest {
    private static final int MOST = Integer.MAX_VALUE, LEAST = Integer.MIN_VALUE;
    /** Two bikes; lifters of all kinds but one who goes. */
    private static final String ALL = "y3,5,7;k9,1;k4,2;c0,1;t11;f12;p13;n14;";
    private static final String GOING = "y3,5,7;k9,1;k4,2;c0,1;g10;t11;t12;g13;";
    private static final String NOBODY = "y3,5,7;k9,1;";

    public static void main(String[] args) {
        kind();
        as();
        asked();
        ask();
        asksNow();
        trace();
        count();
        counted();
        lastCall();
        Due.end();
    }

    private static void kind() {
        Due.one("P32 kind: LIFTER -1 is BAD", ALL, x -> x.kind(-1), Due.BAD);
        Due.one("P32 kind: LIFTER 4 of 4 is BAD", ALL, x -> x.kind(4), Due.BAD);
        Due.one("P32 kind: the greatest is BAD", ALL, x -> x.kind(MOST), Due.BAD);
        Due.one("P32 kind: no LIFTER is there", NOBODY, x -> x.kind(0), Due.BAD);
        Due.one("P32 kind: no YARD is BAD", "", x -> x.kind(0), Due.BAD);
        Due.one("P32 kind: t is 1", ALL, x -> x.kind(0), 1);
        Due.one("P32 kind: f is 2", ALL, x -> x.kind(1), 2);
        Due.one("P32 kind: p is 3", ALL, x -> x.kind(2), 3);
        Due.one("P32 kind: g is 4", GOING, x -> x.kind(3), 4);
        Due.one("P32 kind: n is 5", ALL, x -> x.kind(3), 5);
        Due.test("P32 kind: as told, whatever it is taken as", () -> {
            NineDown x = Due.told(ALL);
            x.as(1, 0);
            x.as(1, 1);
            Due.due("kind", x.kind(1), 2);
        });
    }

    private static void as() {
        // for each sort the KINDS (bits) that it is, too
        String[] sorts = {"t", "f", "p", "g", "n"};
        int[] are = {0b000011, 0b000111, 0b001011, 0b010001, 0b110001};
        for (int s = 0; s < 5; s++) {
            for (int k = 0; k <= 5; k++) {
                int kind = k;
                boolean is = (are[s] >> k & 1) != 0;
                Due.one("P33 as: " + sorts[s] + " as a " + k, NOBODY + "t9;t9;" + sorts[s] + "9;",
                    x -> x.as(2, kind), is ? 2 : Due.KIND);
            }
        }
        Due.one("P33 as: its number, 0", ALL, x -> x.as(0, 1), 0);
        Due.one("P33 as: its number, 3", ALL, x -> x.as(3, 5), 3);
        Due.one("P33 as: LIFTER -1 is BAD", ALL, x -> x.as(-1, 0), Due.BAD);
        Due.one("P33 as: LIFTER 4 of 4 is BAD", ALL, x -> x.as(4, 0), Due.BAD);
        Due.one("P33 as: KIND -1 is BAD", ALL, x -> x.as(0, -1), Due.BAD);
        Due.one("P33 as: KIND 6 is BAD", ALL, x -> x.as(0, 6), Due.BAD);
        Due.one("P33 as: no LIFTER is there", NOBODY, x -> x.as(0, 0), Due.BAD);
        Due.one("P33 as: no YARD is BAD", "", x -> x.as(0, 0), Due.BAD);
        Due.one("P33 as: BAD of a LIFTER, whatever the KIND", ALL, x -> x.as(4, 4), Due.BAD);
    }

    private static void asked() {
        Due.one("P34 ask: LIFTER -1 is BAD", ALL, x -> x.ask(-1, 0), Due.BAD);
        Due.one("P34 ask: LIFTER 4 of 4 is BAD", ALL, x -> x.ask(4, 0), Due.BAD);
        Due.one("P34 ask: what -1 is BAD", ALL, x -> x.ask(0, -1), Due.BAD);
        Due.one("P34 ask: what 2 is BAD", ALL, x -> x.ask(0, 2), Due.BAD);
        Due.one("P34 ask: no LIFTER is there", NOBODY, x -> x.ask(0, 0), Due.BAD);
        Due.one("P34 ask: no YARD is BAD", "", x -> x.ask(0, 0), Due.BAD);
    }

    private static void ask(String name, String text, int one, int what, int answer, int... bodies) {
        Due.one("P34 ask: " + name, text, x -> x.ask(one, what), answer);
        Due.test("P35 trace: " + name, () -> {
            NineDown x = Due.told(text);
            x.ask(one, what);
            for (int i = 0; i < bodies.length; i++) {
                Due.due("trace(" + i + ")", x.trace(i), bodies[i]);
            }
            Due.due("its end", x.trace(bodies.length), Due.NONE);
        });
    }

    private static void ask() {
        ask("SIZE of a TOP", ALL, 0, 0, 11 + 0 + 2, 11, 10, 21, 20);
        ask("SIZE of a FREEING one", ALL, 1, 0, -(12 + 2 * (1 + 2)), 12, 11, 10, 24, 21, 20);
        ask("SIZE of a PAIR, that of TOPS", ALL, 2, 0, 13 + 2 + 2 - 1000, 11, 10, 22, 21, 20);
        ask("SIZE of a GOING one", GOING, 3, 0, 13 - 100, 13, 10);
        ask("SIZE of a NOTE", ALL, 3, 0, 2 * (14 - 100), 14, 13, 10);
        ask("MARK of a TOP", ALL, 0, 1, 0 + 2, 21, 20);
        ask("MARK of a FREEING one", ALL, 1, 1, 2 * (1 + 2), 24, 21, 20);
        ask("MARK of a PAIR", ALL, 2, 1, 2 + 2 - 1000, 22, 21, 20);
        ask("MARK of a GOING one", GOING, 3, 1, 3 - (13 - 100), 23, 20, 13, 10);
        ask("MARK of a NOTE, that of GOING ones, its own SIZE", ALL, 3, 1, 3 - 2 * (14 - 100), 23, 20, 14, 13, 10);
        ask("MARK of the first GOING one", GOING, 0, 1, 0 - (10 - 100), 23, 20, 13, 10);
    }

    private static void asksNow() {
        Due.test("P34 ask: how many BIKES are DOWN, all eight", () ->
            Due.due("ask", Due.told("y3,5,7;" + Due.times("k1,1;", 8) + "t9;").ask(0, 1), 8));
        Due.test("P34 ask: how many BIKES are DOWN, none", () -> {
            NineDown x = Due.told("y3,5,7;k1,1;t9;");
            x.lift(0, 0);
            Due.due("ask", x.ask(0, 1), 0);
            Due.due("SIZE", x.ask(0, 0), 9);
        });
        Due.test("P34 ask: how many BIKES are DOWN, now", () -> {
            NineDown x = Due.told(ALL);
            x.lift(0, 0);
            Due.due("one", x.ask(0, 1), 1);
            x.undo();
            Due.due("two", x.ask(0, 1), 2);
        });
        Due.test("P34 ask: nothing changes but THE TRACE", () -> {
            NineDown x = Due.told(ALL);
            x.drop(0);
            x.ask(1, 0);
            Due.due("status", x.status(), 1);
            Due.due("DOWN", x.stand(2), 3);
            Due.due("ACTS", x.count(6), 0);
        });
    }

    private static void trace() {
        Due.one("P35 trace: -1 is NONE", ALL, x -> x.ask(0, 0) * 0 + x.trace(-1), Due.NONE);
        Due.one("P35 trace: the least is NONE", ALL, x -> x.ask(0, 0) * 0 + x.trace(LEAST), Due.NONE);
        Due.one("P35 trace: the greatest is NONE", ALL, x -> x.ask(0, 0) * 0 + x.trace(MOST), Due.NONE);
        Due.one("P35 trace: the last", ALL, x -> x.ask(0, 0) * 0 + x.trace(3), 20);
        Due.one("P35 trace: behind the last is NONE", ALL, x -> x.ask(0, 0) * 0 + x.trace(4), Due.NONE);
        Due.one("P35 trace: 15 is NONE, no ask has as many", ALL, x -> x.ask(1, 0) * 0 + x.trace(15), Due.NONE);
        Due.one("P35 trace: 16 is NONE", ALL, x -> x.ask(1, 0) * 0 + x.trace(16), Due.NONE);
        Due.one("P35 trace: empty ahead of the first ask", ALL, x -> x.trace(0), Due.NONE);
        Due.one("P35 trace: no YARD, NONE", "", x -> x.trace(0), Due.NONE);
        Due.test("P34 ask: THE TRACE is empty ahead of it", () -> {
            NineDown x = Due.told(ALL);
            x.ask(1, 0);
            x.ask(0, 1);
            Due.due("0", x.trace(0), 21);
            Due.due("1", x.trace(1), 20);
            Due.due("of the longer one nothing", x.trace(2), Due.NONE);
        });
        Due.test("P34 ask: asked twice, not one behind another", () -> {
            NineDown x = Due.told(ALL);
            x.ask(0, 1);
            x.ask(0, 1);
            Due.due("2", x.trace(2), Due.NONE);
        });
        Due.test("P34 ask: BAD leaves THE TRACE", () -> {
            NineDown x = Due.told(ALL);
            x.ask(0, 1);
            x.ask(4, 0);
            x.ask(0, 2);
            Due.due("0", x.trace(0), 21);
            Due.due("1", x.trace(1), 20);
        });
        Due.test("P35 trace: no other call leaves a number in it", () -> {
            NineDown x = Due.told(ALL);
            x.ask(0, 1);
            x.kind(1);
            x.as(1, 1);
            x.lift(1, 0);
            x.takes(2, 1, 0);
            x.soonest(15, 0);
            Due.due("0", x.trace(0), 21);
            Due.due("2", x.trace(2), Due.NONE);
        });
    }

    private static void count() {
        Due.one("P36 count: what -1 is BAD", ALL, x -> x.count(-1), Due.BAD);
        Due.one("P36 count: what 8 is BAD", ALL, x -> x.count(8), Due.BAD);
        Due.one("P36 count: the greatest is BAD", ALL, x -> x.count(MOST), Due.BAD);
        Due.one("P36 count: no YARD, what 8 is BAD", "", x -> x.count(8), Due.BAD);
        for (int w = 0; w <= 7; w++) {
            int what = w;
            Due.one("P36 count: of a new object none, " + what, "", x -> x.count(what), 0);
        }
    }

    private static void counted() {
        Due.test("P36 count: ROWS that are there", () -> {
            NineDown x = new NineDown();
            x.row(0, 0, 0);
            x.row(7, 0, 40);
            x.row(7, 1, 4);
            Due.due("two", x.count(0), 2);
            x.drop(0);
            Due.due("one", x.count(0), 1);
        });
        Due.one("P36 count: eight BIKES", "y1,0,0;" + Due.times("k1,1;", 8), x -> x.count(1), 8);
        Due.one("P36 count: ten holds, LOOSE or not",
            "y1,0,0;" + Due.times("k1,1;", 5) + "o0,1;c0,1;o0,2;c0,2;o0,3;c0,3;o0,4;c0,4;o1,2;c1,2;",
            x -> x.loosen(1) * 0 + x.count(2), 10);
        Due.one("P36 count: four LIFTERS", ALL, x -> x.count(3), 4);
        Due.test("P36 count: BIKES that are UP count, too", () -> {
            NineDown x = Due.told(ALL);
            x.lift(0, 0);
            Due.due("BIKES", x.count(1), 2);
        });
        Due.test("P36 count: SECONDS and FALLS, with what is undone", () -> {
            NineDown x = Due.told(ALL);
            x.lift(0, 0);
            x.loosen(0);
            Due.due("SECONDS", x.count(4), 17);
            Due.due("FALLS", x.count(5), 1);
            x.undo();
            x.undo();
            Due.due("SECONDS", x.count(4), 0);
            Due.due("FALLS", x.count(5), 0);
        });
        Due.test("P36 count: bytes on the tape", () -> {
            NineDown x = new NineDown();
            x.feed(0);
            x.feed(255);
            x.feed(256);
            Due.due("bytes", x.count(7), 2);
            x.yard();
            Due.due("bytes", x.count(7), 0);
        });
    }

    private static void lastCall() {
        Due.test("an object is used for 512 calls: the last one answers, too", () -> {
            NineDown x = new NineDown();
            String text = "y3,5,7;k9,1;t9;";
            for (int i = 0; i < text.length(); i++) {
                x.feed(text.charAt(i));
            }
            x.yard();
            // 16 calls so far, 492 here, 4 behind them
            for (int i = 0; i < 246; i++) {
                x.lift(0, 0);
                x.fall(0);
            }
            Due.due("SECONDS", x.count(4), 9 * 246);
            Due.due("FALLS", x.count(5), 246);
            Due.due("ACTS", x.count(6), 24);
            Due.due("DOWN", x.stand(2), 1);
        });
    }
}
