/** Promises 9 to 17, and 30, 31: what is done, undone, kept. */
public final class DoneTest {
    public static void main(String[] args) {
        Due.test("Done: bikesAndHolds", DoneTest::bikesAndHolds);
        Due.test("Done: takes", DoneTest::takes);
        Due.test("Done: lifts", DoneTest::lifts);
        Due.test("Done: loosens", DoneTest::loosens);
        Due.test("Done: falls", DoneTest::falls);
        Due.test("Done: spaces", DoneTest::spaces);
        Due.test("Done: stands", DoneTest::stands);
        Due.test("Done: undoes", DoneTest::undoes);
        Due.test("Done: forgets", DoneTest::forgets);
        Due.test("Done: forgetsEachRow", DoneTest::forgetsEachRow);
        Due.test("Done: images", DoneTest::images);
        Due.end();
    }

    private static void bikesAndHolds() {
        NineDown x = Due.told(Due.FIVE);
        int[][] bikes = {{9, 2, 1, 1, 1}, {12, 3, 1, 0, 1}, {20, 5, 1, 0, 0}, {8, 1, 1, 1, 1}, {15, 3, 1, 1, 1}};
        for (int bike = 0; bike < 5; bike++) {
            for (int what = 0; what < 5; what++) {
                Due.due("bike(" + bike + ", " + what + ")", x.bike(bike, what), bikes[bike][what]);
            }
        }
        int[][] holds = {{0, 0, 1, 0}, {0, 1, 2, 0}, {1, 1, 3, 0}, {1, 0, 4, 0}};
        for (int hold = 0; hold < 4; hold++) {
            for (int what = 0; what < 4; what++) {
                Due.due("hold(" + hold + ", " + what + ")", x.hold(hold, what), holds[hold][what]);
            }
        }
        Due.due("bike 5", x.bike(5, 0), Due.BAD);
        Due.due("bike -1", x.bike(-1, 0), Due.BAD);
        Due.due("bike what", x.bike(0, 5), Due.BAD);
        Due.due("bike what", x.bike(0, -1), Due.BAD);
        Due.due("hold 4", x.hold(4, 0), Due.BAD);
        Due.due("hold -1", x.hold(-1, 0), Due.BAD);
        Due.due("hold what", x.hold(0, 4), Due.BAD);
        Due.due("hold what", x.hold(0, -1), Due.BAD);
        x.lift(1, 0);
        Due.due("UP", x.bike(0, 2), 0);
        Due.due("UP is not FREE", x.bike(0, 3), 0);
        Due.due("UP has no CATCHES", x.bike(0, 4), 0);
        Due.due("nor has the other one", x.bike(4, 4), 0);
        Due.due("FREE now", x.bike(1, 3), 1);
    }

    private static void takes(NineDown x, int lifter, int bike, int seconds, int falls) {
        Due.due("takes(" + lifter + ", " + bike + ", 0)", x.takes(lifter, bike, 0), seconds);
        Due.due("takes(" + lifter + ", " + bike + ", 1)", x.takes(lifter, bike, 1), falls);
    }

    private static void takes() {
        NineDown x = Due.told(Due.FIVE);
        takes(x, 0, 0, 12, 1);
        takes(x, 1, 0, 11, 0);
        takes(x, 2, 0, 6, 1);
        takes(x, 3, 0, Due.NONE, Due.NONE);
        takes(x, 0, 1, Due.NONE, Due.NONE);
        takes(x, 2, 2, Due.NONE, Due.NONE);
        takes(x, 0, 4, Due.NONE, Due.NONE);
        takes(x, 1, 4, 17, 0);
        takes(x, 2, 4, 9, 1);
        Due.due("no lifter", x.takes(4, 0, 0), Due.BAD);
        Due.due("no lifter", x.takes(-1, 0, 0), Due.BAD);
        Due.due("no bike", x.takes(0, 5, 0), Due.BAD);
        Due.due("no bike", x.takes(0, -1, 0), Due.BAD);
        Due.due("what", x.takes(0, 0, 2), Due.BAD);
        Due.due("what", x.takes(0, 0, -1), Due.BAD);
        NineDown y = Due.told("y1,5,20;k9,1;k10,1;k11,1;g10;n10;t10;p5;");
        takes(y, 0, 0, 4, 0);
        takes(y, 1, 0, 24, 0);
        takes(y, 2, 0, 9, 0);
        takes(y, 3, 0, 4, 0);
        takes(y, 0, 1, 5, 0);
        takes(y, 3, 1, 5, 0);
        for (int lifter = 0; lifter < 4; lifter++) {
            takes(y, lifter, 2, Due.NONE, Due.NONE);
        }
    }

    private static void lifts() {
        NineDown x = Due.told(Due.FIVE);
        Due.due("under another", x.lift(1, 1), Due.STATE);
        Due.due("too heavy", x.lift(0, 4), Due.STATE);
        Due.due("caught", x.lift(3, 3), Due.STATE);
        Due.due("no lifter", x.lift(4, 0), Due.BAD);
        Due.due("no lifter", x.lift(-1, 0), Due.BAD);
        Due.due("no bike", x.lift(0, 5), Due.BAD);
        Due.due("no bike", x.lift(0, -1), Due.BAD);
        Due.due("nothing is done", x.count(6), 0);
        Due.due("lift", x.lift(0, 0), 12);
        Due.due("UP", x.lift(0, 0), Due.STATE);
        Due.due("lift", x.lift(2, 4), 7);
        Due.due("lift", x.lift(1, 3), 10);
        Due.due("one who frees leaves the hold as it is", x.hold(2, 3), 0);
        Due.due("seconds", x.stand(0), 29);
        Due.due("falls", x.stand(1), 1);
        Due.due("down", x.stand(2), 6);
        Due.due("free", x.stand(3), 2);
        Due.due("acts", x.count(6), 3);
    }

    private static void loosens() {
        NineDown x = Due.told(Due.FIVE);
        Due.due("lies on", x.loosen(0), Due.STATE);
        Due.due("no hold", x.loosen(4), Due.BAD);
        Due.due("no hold", x.loosen(-1), Due.BAD);
        Due.due("loosen", x.loosen(3), 2);
        Due.due("LOOSE", x.loosen(3), Due.STATE);
        Due.due("hold", x.hold(3, 3), 1);
        Due.due("catches", x.bike(0, 4), 0);
        Due.due("catches", x.bike(4, 4), 0);
        Due.due("others are caught yet", x.bike(3, 4), 1);
        Due.due("lift by a note", x.lift(3, 0), 8);
        Due.due("loosen with both ends", x.loosen(2), 12);
        Due.due("loosen in seconds", x.stand(0), 12);
        Due.due("falls", x.stand(1), 0);
        Due.due("fall", x.fall(0), 1);
        Due.due("a hold is LOOSE from then on", x.bike(0, 4), 0);
        NineDown y = Due.told("y1,0,0;k1,1;k1,1;c0,1;t9;");
        y.lift(0, 0);
        Due.due("loosen of one that is UP", y.loosen(0), 4);
    }

    private static void falls() {
        NineDown x = Due.told(Due.FIVE);
        Due.due("DOWN", x.fall(0), Due.STATE);
        Due.due("no bike", x.fall(5), Due.BAD);
        Due.due("no bike", x.fall(-1), Due.BAD);
        x.lift(0, 0);
        Due.due("fall", x.fall(0), 2);
        Due.due("DOWN", x.fall(0), Due.STATE);
        Due.due("seconds stay", x.stand(0), 12);
        Due.due("on the other one again", x.bike(1, 3), 0);
        Due.due("caught again", x.bike(0, 4), 1);
        Due.due("layer", x.layer(1), 1);
    }

    private static void spaces() {
        NineDown x = Due.told(Due.FIVE);
        Due.due("space", x.space(2, 20), 5);
        Due.due("space", x.space(2, 1), 20);
        Due.due("gap", x.bike(2, 1), 1);
        Due.due("the last one's", x.space(4, 9), 3);
        Due.due("gap 0", x.space(2, 0), Due.BAD);
        Due.due("gap 21", x.space(2, 21), Due.BAD);
        Due.due("no bike", x.space(5, 1), Due.BAD);
        Due.due("no bike", x.space(-1, 1), Due.BAD);
        Due.due("acts", x.count(6), 3);
        Due.due("fell", x.fell(0, 1), 31);
    }

    private static void stands() {
        NineDown x = new NineDown();
        Due.due("STATE ahead of BAD", x.stand(9), Due.STATE);
        Due.tell(x, Due.FIVE);
        Due.due("seconds", x.stand(0), 0);
        Due.due("falls", x.stand(1), 0);
        Due.due("down", x.stand(2), 31);
        Due.due("free", x.stand(3), 25);
        Due.due("what", x.stand(4), Due.BAD);
        Due.due("what", x.stand(-1), Due.BAD);
    }

    private static void same(NineDown x, String when, int seconds, int falls, int down) {
        Due.due("seconds " + when, x.stand(0), seconds);
        Due.due("falls " + when, x.stand(1), falls);
        Due.due("down " + when, x.stand(2), down);
    }

    private static void undoes() {
        NineDown x = Due.told(Due.FIVE);
        x.lift(0, 0);
        x.loosen(2);
        x.fall(0);
        x.space(0, 19);
        Due.due("acts", x.count(6), 4);
        Due.due("undo of a gap", x.undo(), 3);
        Due.due("gap", x.bike(0, 1), 2);
        same(x, "behind a gap", 14, 2, 31);
        Due.due("undo of a fall", x.undo(), 2);
        same(x, "behind a fall", 14, 1, 30);
        Due.due("undo of a loosening", x.undo(), 1);
        same(x, "behind a loosening", 12, 1, 30);
        Due.due("hold", x.hold(2, 3), 0);
        Due.due("catches", x.bike(3, 4), 1);
        Due.due("undo of a lift", x.undo(), 0);
        same(x, "behind a lift", 0, 0, 31);
        Due.due("undo of none", x.undo(), Due.STATE);
        Due.due("lift anew", x.lift(0, 0), 12);
    }

    private static void forgets() {
        NineDown x = Due.told(Due.FIVE);
        x.lift(2, 0);
        for (int i = 1; i <= 20; i++) {
            x.space(1, i);
        }
        x.loosen(2);
        x.fall(0);
        x.lift(2, 0);
        Due.due("24 are kept", x.count(6), 24);
        x.lift(2, 4);
        x.fall(4);
        Due.due("and no more", x.count(6), 24);
        for (int i = 23; i >= 0; i--) {
            Due.due("undo", x.undo(), i);
        }
        Due.due("the oldest two are forgotten", x.undo(), Due.STATE);
        Due.due("gap", x.bike(1, 1), 1);
        same(x, "behind all", 6, 1, 30);
        Due.due("hold", x.hold(2, 3), 0);
    }

    /** More ACTS than are kept, of all sorts, by turns (of six: not as many as are forgotten); each undoing brings back just what stood ahead of it. */
    private static void forgetsEachRow() {
        NineDown x = Due.told(Due.FIVE);
        int[][] stood = new int[29][];
        for (int i = 0; i < 29; i++) {
            stood[i] = standing(x);
            switch (i % 6) {
                case 0: x.lift(2, 0); break;
                case 1: x.space(i % 5, 1 + i % 20); break;
                case 2: x.lift(i % 4 == 0 ? 1 : 2, 4); break;
                case 3: x.fall(0); break;
                case 4: x.space(2, 20 - i % 20); break;
                default: x.fall(4); break;
            }
        }
        for (int i = 28; i >= 5; i--) {
            Due.due("undo", x.undo(), i - 5);
            int[] now = standing(x);
            for (int k = 0; k < now.length; k++) {
                Due.due("ahead of act " + i + ", " + k, now[k], stood[i][k]);
            }
        }
        Due.due("no more", x.undo(), Due.STATE);
    }

    private static int[] standing(NineDown x) {
        int[] now = new int[8];
        for (int what = 0; what < 3; what++) {
            now[what] = x.stand(what);
        }
        for (int bike = 0; bike < 5; bike++) {
            now[3 + bike] = x.bike(bike, 1);
        }
        return now;
    }

    private static void images() {
        NineDown x = new NineDown();
        Due.due("no yard", x.image(0), Due.STATE);
        Due.due("BAD ahead of STATE", x.image(2), Due.BAD);
        Due.due("none kept", x.restore(1), Due.STATE);
        for (int k = -2; k <= 4; k++) {
            if (k < 0 || k > 1) {
                Due.due("BAD ahead of STATE", x.image(k), Due.BAD);
                Due.due("BAD ahead of STATE", x.restore(k), Due.BAD);
            }
        }
        Due.tell(x, Due.FIVE);
        x.lift(0, 0);
        x.loosen(2);
        x.space(1, 17);
        Due.due("image", x.image(0), 1);
        Due.due("acts stay", x.count(6), 3);
        x.fall(0);
        x.undo();
        x.undo();
        x.lift(2, 3);
        Due.tell(x, "y1,0,0;k7,1;k7,1;k7,1;c0,2;c1,2;o2,0;o2,1;");
        x.loosen(0);
        Due.tell(x, "y1,0,0;k7,1;");
        Due.due("image", x.image(1), 1);
        x.space(0, 9);
        Due.due("restore", x.restore(0), 1);
        same(x, "as kept", 14, 1, 30);
        Due.due("bikes", x.count(1), 5);
        Due.due("holds", x.count(2), 4);
        Due.due("lifters", x.count(3), 4);
        Due.due("gap", x.bike(1, 1), 17);
        Due.due("hold", x.hold(2, 3), 1);
        Due.due("catches", x.bike(3, 4), 0);
        Due.due("kind", x.kind(3), 5);
        int[][] holds = {{0, 0, 1, 0}, {0, 1, 2, 0}, {1, 1, 3, 1}, {1, 0, 4, 0}};
        for (int hold = 0; hold < 4; hold++) {
            for (int what = 0; what < 4; what++) {
                Due.due("hold(" + hold + ", " + what + ")", x.hold(hold, what), holds[hold][what]);
            }
        }
        Due.due("the law's REACH", x.fell(3, 1), 24);
        Due.due("the law's NOTE", x.takes(3, 3, 0), 8);
        Due.due("lies on", x.layer(2), 1);
        Due.due("no act", x.count(6), 0);
        Due.due("no act", x.undo(), Due.STATE);
        x.lift(3, 3);
        x.space(1, 2);
        Due.due("restore anew", x.restore(0), 1);
        same(x, "as kept", 14, 1, 30);
        Due.due("gap", x.bike(1, 1), 17);
        Due.due("the other one", x.restore(1), 1);
        Due.due("bikes", x.count(1), 1);
        Due.due("holds", x.count(2), 0);
        Due.due("lifters", x.count(3), 0);
        Due.due("no lifter", x.kind(0), Due.BAD);
    }
}
