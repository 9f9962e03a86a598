import java.util.ArrayList;
import java.util.List;
import java.util.function.Supplier;
import java.util.function.ToLongFunction;

/**
 * What is refused, or found, changes nothing but status(); what is foretold changes nothing either.
 * Two objects are made by the same calls; one gets the call besides; then both are asked all there is.
 */
public final class RefusedTest {
    private static final int BAD = Due.BAD, STATE = Due.STATE;
    private static final int MOST = Integer.MAX_VALUE, LEAST = Integer.MIN_VALUE;
    /** Where among the answers status() is, and THE TRACE; how many answers tell of each restore(). */
    private static final int STATUS = 0, TRACE = 10, TRACED = 7, RESTORED = 15;

    public static void main(String[] args) {
        ofNew();
        ofRows();
        ofTold();
        ofDone();
        ofForetold();
        ofAsked();
        ofFull();
        foretold();
        looks();
        Due.end();
    }

    /** A yard in the midst of it: something of everything there is. */
    private static NineDown midst() {
        NineDown x = new NineDown();
        Due.tell(x, "y0");
        Due.tell(x, Due.FIVE);
        x.lift(2, 0);
        x.image(1);
        x.loosen(2);
        x.lift(2, 4);
        x.fall(4);
        x.space(3, 17);
        Due.fill(x, 0, 0, 21, 23, 1, 7);
        Due.fill(x, 1, 1, 1, 6, 300);
        Due.fill(x, 5, 2, 1, 1, 1, 0, 0, 70000);
        x.row(6, 2, 0);
        Due.feed(x, "y1,0,0;k5,5;t");
        x.ask(3, 1);
        Due.due("a finding ahead of it all", x.set(0, 4, 1), Due.PLACE);
        return x;
    }

    /** All are up, as many acts as are kept, a tape that is full. */
    private static NineDown full() {
        NineDown x = Due.told("y1,0,0;k5,5;k6,6;c0,1;t9;");
        for (int i = 0; i < 12; i++) {
            x.space(0, 1 + i);
            x.space(1, 20 - i);
        }
        x.lift(0, 0);
        x.lift(0, 1);
        x.loosen(0);
        for (int i = 0; i < 120; i++) {
            x.feed("y1,0,0;k5,5;k6,6;t9;".charAt(i % 20));
        }
        return x;
    }

    /** Answers to all that can be asked; the first is status(); the last calls take all apart. */
    private static List<Long> all(NineDown x) {
        List<Long> said = new ArrayList<>();
        said.add((long) x.status());
        said.add((long) x.fault());
        for (int what = 0; what < 8; what++) {
            said.add((long) x.count(what));
        }
        for (int i = 0; i < TRACED; i++) {
            said.add((long) x.trace(i));
        }
        standing(x, said);
        foretelling(x, said);
        rows(x, said);
        for (int i = 0; i < 25; i++) {
            said.add((long) x.undo());
        }
        standing(x, said);
        said.add((long) x.yard());
        said.add((long) x.fault());
        said.add((long) x.count(3));
        for (int k = 0; k < 2; k++) {
            said.add((long) x.restore(k));
            standing(x, said);
        }
        return said;
    }

    private static void standing(NineDown x, List<Long> said) {
        for (int what = 0; what < 4; what++) {
            said.add((long) x.stand(what));
        }
        for (int bike = 0; bike < 5; bike++) {
            said.add((long) x.bike(bike, 1));
            said.add((long) x.bike(bike, 4));
        }
    }

    private static void foretelling(NineDown x, List<Long> said) {
        for (int bike = 0; bike < 5; bike++) {
            said.add((long) x.bike(bike, 0));
            said.add((long) x.layer(bike));
            said.add((long) x.fell(bike, 1));
        }
        for (int hold = 0; hold < 4; hold++) {
            said.add((long) x.hold(hold, 1));
            said.add((long) x.hold(hold, 3));
        }
        for (int one = 0; one < 4; one++) {
            said.add((long) x.kind(one));
            said.add((long) x.takes(one, 4, 0));
        }
        for (int set : new int[] {1, 15}) {
            said.add((long) x.soonest(set, 0));
            said.add((long) x.gentlest(set, 1));
            said.add((long) x.never(set));
        }
        said.add((long) x.fetch(1));
        said.add((long) x.widen(1, 1));
        said.add((long) x.drawn(20, 7, 0));
    }

    private static void rows(NineDown x, List<Long> said) {
        for (int row = 0; row < 8; row++) {
            said.add((long) x.plan(row, 0, 2, 0));
            said.add((long) x.first(row, 0));
            said.add((long) x.who(2, row, 0, 1));
            said.add((long) x.set(row, 2, 123456789));
            said.add((long) x.drop(row));
        }
    }

    private static boolean isFinding(long answer) {
        return answer <= -1000011 && answer >= -1000015;
    }

    private static void refused(String name, Supplier<NineDown> made, ToLongFunction<NineDown> call, long answer) {
        Due.test("refused: " + name, () -> {
            NineDown x = made.get();
            NineDown y = made.get();
            Due.due("the call", call.applyAsLong(y), answer);
            same(all(x), all(y), isFinding(answer) ? -1000010 - answer : -1, 0, 0);
        });
    }

    /** Both have said the same, but for a status (-1: the same), and answers of a stretch. */
    private static void same(List<Long> said, List<Long> then, long status, int from, int to) {
        Due.due("as many answers", then.size(), said.size());
        for (int i = 0; i < said.size(); i++) {
            boolean differs = i == STATUS && status >= 0;
            if (i < from || i >= to) {
                Due.due("answer " + i, then.get(i), differs ? status : said.get(i));
            }
        }
    }

    private static void ofNew() {
        Supplier<NineDown> none = NineDown::new;
        refused("no yard: lift", none, x -> x.lift(0, 0), BAD);
        refused("no yard: loosen", none, x -> x.loosen(0), BAD);
        refused("no yard: fall", none, x -> x.fall(0), BAD);
        refused("no yard: space", none, x -> x.space(0, 5), BAD);
        refused("no yard: undo", none, x -> x.undo(), STATE);
        refused("no yard: stand", none, x -> x.stand(0), STATE);
        refused("no yard: soonest", none, x -> x.soonest(0, 0), STATE);
        refused("no yard: gentlest", none, x -> x.gentlest(0, 0), STATE);
        refused("no yard: never", none, x -> x.never(0), STATE);
        refused("no yard: fetch", none, x -> x.fetch(0), STATE);
        refused("no yard: first", none, x -> x.first(0, 0), STATE);
        refused("no yard: widen", none, x -> x.widen(1, 0), STATE);
        refused("no yard: plan", none, x -> x.plan(0, 0, 0, 0), STATE);
        refused("no yard: who", none, x -> x.who(0, 0, 0, 1), BAD);
        refused("no yard: drawn", none, x -> x.drawn(1, 1, 0), STATE);
        refused("no yard: image", none, x -> x.image(0), STATE);
        refused("no yard: restore", none, x -> x.restore(0), STATE);
        refused("no yard: as", none, x -> x.as(0, 0), BAD);
        refused("no yard: ask", none, x -> x.ask(0, 0), BAD);
        refused("no yard: set, NULL", none, x -> x.set(0, 0, 1), Due.NULL);
        refused("no yard: row, SIZE", none, x -> x.row(0, 0, -1), Due.SIZE);
    }

    private static void ofRows() {
        Supplier<NineDown> midst = RefusedTest::midst;
        refused("row, no ROW", midst, x -> x.row(8, 0, 1), BAD);
        refused("row, no LANE", midst, x -> x.row(0, 3, 1), BAD);
        refused("row, n 41", midst, x -> x.row(0, 0, 41), BAD);
        refused("row, SIZE", midst, x -> x.row(0, 2, -1), Due.SIZE);
        refused("set, no ROW", midst, x -> x.set(-1, 0, 9), BAD);
        refused("set, NULL", midst, x -> x.set(2, 0, 9), Due.NULL);
        refused("set, PLACE below", midst, x -> x.set(0, -1, 9), Due.PLACE);
        refused("set, PLACE beyond", midst, x -> x.set(1, 3, 9), Due.PLACE);
        refused("copy, no ROW", midst, x -> x.copy(0, 0, 8, 0, 1), BAD);
        refused("copy, NULL of a", midst, x -> x.copy(2, 0, 0, 0, 1), Due.NULL);
        refused("copy, NULL of b", midst, x -> x.copy(0, 0, 2, 0, 1), Due.NULL);
        refused("copy, STORE", midst, x -> x.copy(0, 0, 1, 0, 2), Due.STORE);
        refused("copy, PLACE beyond a", midst, x -> x.copy(0, 2, 0, 0, 3), Due.PLACE);
        refused("copy, PLACE beyond b", midst, x -> x.copy(0, 0, 0, 2, 3), Due.PLACE);
        refused("copy, PLACE of n", midst, x -> x.copy(0, 0, 0, 1, -1), Due.PLACE);
        refused("drop, no ROW", midst, x -> x.drop(8), BAD);
        refused("drop, NULL", midst, x -> x.drop(2), Due.NULL);
    }

    private static void ofTold() {
        Supplier<NineDown> midst = RefusedTest::midst;
        refused("feed, 256", midst, x -> x.feed(256), BAD);
        refused("feed, -1", midst, x -> x.feed(-1), BAD);
        // the tape of midst() has a fault: with it all stays but the tape, and the number of the fault
        Due.test("refused: yard, all stays but the tape", () -> {
            NineDown x = midst();
            NineDown y = midst();
            Due.due("x has the tape read later", x.count(7), 13);
            Due.due("yard", y.yard(), -1000113);
            Due.due("fault", y.fault(), 1);
            List<Long> said = new ArrayList<>();
            List<Long> then = new ArrayList<>();
            standing(x, said);
            standing(y, then);
            foretelling(x, said);
            foretelling(y, then);
            rows(x, said);
            rows(y, then);
            for (int i = 0; i < 25; i++) {
                said.add((long) x.undo());
                then.add((long) y.undo());
            }
            standing(x, said);
            standing(y, then);
            Due.due("status", y.status(), x.status());
            same(said, then, -1, 0, 0);
        });
        Due.test("refused: undo, when all are undone", () -> {
            NineDown x = midst();
            NineDown y = midst();
            for (int i = 0; i < 5; i++) {
                Due.due("undo", x.undo(), 4 - i);
                Due.due("undo", y.undo(), 4 - i);
            }
            Due.due("none", y.undo(), STATE);
            same(all(x), all(y), -1, 0, 0);
        });
    }

    private static void ofDone() {
        Supplier<NineDown> midst = RefusedTest::midst;
        refused("lift, no LIFTER", midst, x -> x.lift(4, 1), BAD);
        refused("lift, no BIKE", midst, x -> x.lift(0, 5), BAD);
        refused("lift, UP", midst, x -> x.lift(0, 0), STATE);
        refused("lift, not FREE", midst, x -> x.lift(2, 2), STATE);
        refused("lift, too heavy", midst, x -> x.lift(0, 4), STATE);
        refused("loosen, no hold", midst, x -> x.loosen(4), BAD);
        refused("loosen, lies on", midst, x -> x.loosen(0), STATE);
        refused("loosen, LOOSE", midst, x -> x.loosen(2), STATE);
        refused("fall, no BIKE", midst, x -> x.fall(-1), BAD);
        refused("fall, DOWN", midst, x -> x.fall(3), STATE);
        refused("space, no BIKE", midst, x -> x.space(5, 3), BAD);
        refused("space, GAP 0", midst, x -> x.space(3, 0), BAD);
        refused("space, GAP 21", midst, x -> x.space(3, 21), BAD);
        refused("bike, what", midst, x -> x.bike(0, 5), BAD);
        refused("hold, what", midst, x -> x.hold(0, 4), BAD);
        refused("takes, what", midst, x -> x.takes(0, 1, 2), BAD);
        refused("takes, NONE", midst, x -> x.takes(0, 4, 0), Due.NONE);
        refused("stand, what", midst, x -> x.stand(4), BAD);
    }

    private static void ofForetold() {
        Supplier<NineDown> midst = RefusedTest::midst;
        refused("soonest, LIFTERS", midst, x -> x.soonest(16, 0), BAD);
        refused("soonest, what", midst, x -> x.soonest(15, 2), BAD);
        refused("gentlest, LIFTERS", midst, x -> x.gentlest(-1, 0), BAD);
        refused("gentlest, what", midst, x -> x.gentlest(15, 3), BAD);
        refused("never, LIFTERS", midst, x -> x.never(LEAST), BAD);
        refused("fetch, what", midst, x -> x.fetch(2), BAD);
        refused("layer, no BIKE", midst, x -> x.layer(5), BAD);
        refused("fell, way", midst, x -> x.fell(0, 2), BAD);
        refused("first, no ROW", midst, x -> x.first(8, 0), BAD);
        refused("first, NULL", midst, x -> x.first(2, 0), Due.NULL);
        refused("first, PLACE", midst, x -> x.first(5, 2), Due.PLACE);
        refused("widen, m", midst, x -> x.widen(9, 0), BAD);
        refused("plan, n", midst, x -> x.plan(0, 0, 41, 0), BAD);
        refused("plan, NULL", midst, x -> x.plan(2, 0, 1, 0), Due.NULL);
        refused("plan, PLACE", midst, x -> x.plan(0, MOST, 1, 0), Due.PLACE);
        refused("who, n", midst, x -> x.who(0, 0, 0, 9), BAD);
        refused("who, NULL", midst, x -> x.who(0, 2, 0, 1), Due.NULL);
        refused("who, PLACE", midst, x -> x.who(0, 1, 2, 1), Due.PLACE);
        refused("who, an ITEM that is no BIKE", midst, x -> x.who(0, 0, 0, 1), BAD);
        refused("seen, p", midst, x -> x.seen(11, 1, 1, 0), BAD);
        refused("drawn, n", midst, x -> x.drawn(61, 1, 0), BAD);
        refused("drawn, SEED", midst, x -> x.drawn(1, 0, 0), BAD);
        refused("image, 2", midst, x -> x.image(2), BAD);
        refused("restore, 2", midst, x -> x.restore(2), BAD);
        refused("restore, none was kept", midst, x -> x.restore(0), STATE);
    }

    private static void ofAsked() {
        Supplier<NineDown> midst = RefusedTest::midst;
        refused("kind, no LIFTER", midst, x -> x.kind(4), BAD);
        refused("as, no LIFTER", midst, x -> x.as(4, 0), BAD);
        refused("as, no KIND", midst, x -> x.as(0, 6), BAD);
        refused("as, KIND", midst, x -> x.as(0, 2), Due.KIND);
        refused("ask, no LIFTER", midst, x -> x.ask(4, 0), BAD);
        refused("ask, what", midst, x -> x.ask(0, 2), BAD);
        refused("trace, NONE", midst, x -> x.trace(16), Due.NONE);
        refused("count, what", midst, x -> x.count(8), BAD);
    }

    private static void ofFull() {
        Supplier<NineDown> full = RefusedTest::full;
        refused("a tape that is full: feed", full, x -> x.feed(';'), Due.FULL);
        refused("a tape that is full: feed, 256", full, x -> x.feed(256), BAD);
        refused("as many ACTS as are kept: lift", full, x -> x.lift(0, 0), STATE);
        refused("as many ACTS as are kept: loosen", full, x -> x.loosen(0), STATE);
        refused("as many ACTS as are kept: space", full, x -> x.space(0, 21), BAD);
        refused("as many ACTS as are kept: fall", full, x -> x.fall(2), BAD);
        refused("as many ACTS as are kept: restore", full, x -> x.restore(0), STATE);
    }

    private static void leaves(String name, ToLongFunction<NineDown> call, long status, int from, int to) {
        Due.test("nothing changes by " + name, () -> {
            NineDown x = midst();
            NineDown y = midst();
            Due.due("not refused", call.applyAsLong(y) > Due.NONE ? 1 : 0, 1);
            same(all(x), all(y), status, from, to);
        });
    }

    private static void foretold() {
        leaves("soonest", x -> x.soonest(15, 0), -1, 0, 0);
        leaves("soonest, the first lift", x -> x.soonest(15, 1), -1, 0, 0);
        leaves("gentlest", x -> x.gentlest(15, 0), -1, 0, 0);
        leaves("gentlest, the first lift", x -> x.gentlest(15, 2), -1, 0, 0);
        leaves("never", x -> x.never(15), -1, 0, 0);
        leaves("fetch", x -> x.fetch(1), -1, 0, 0);
        leaves("layer", x -> x.layer(1), -1, 0, 0);
        leaves("fell", x -> x.fell(0, 1), -1, 0, 0);
        leaves("first but status", x -> x.first(5, 0), 0, 0, 0);
        leaves("widen", x -> x.widen(1, 1), -1, 0, 0);
        leaves("plan but status", x -> x.plan(0, 0, 4, 0), 0, 0, 0);
        leaves("who but status", x -> x.who(2, 1, 0, 1), 0, 0, 0);
        leaves("seen", x -> x.seen(5, 5, 2, 0), -1, 0, 0);
        leaves("drawn", x -> x.drawn(60, 1, 0), -1, 0, 0);
        Due.test("nothing changes by image but what it keeps", () -> {
            NineDown y = midst();
            List<Long> said = all(midst());
            Due.due("image", y.image(0), 1);
            same(said, all(y), -1, said.size() - 2 * RESTORED, said.size() - RESTORED);
        });
    }

    private static void looks() {
        leaves("bike", x -> x.bike(1, 3), -1, 0, 0);
        leaves("hold", x -> x.hold(1, 2), -1, 0, 0);
        leaves("takes", x -> x.takes(1, 1, 0), -1, 0, 0);
        leaves("stand", x -> x.stand(3), -1, 0, 0);
        leaves("fault", x -> x.fault(), -1, 0, 0);
        leaves("kind", x -> x.kind(2), -1, 0, 0);
        leaves("as but status", x -> x.as(2, 1), 0, 0, 0);
        leaves("ask but THE TRACE", x -> x.ask(1, 0), -1, TRACE, TRACE + TRACED);
        leaves("trace", x -> x.trace(0), -1, 0, 0);
        leaves("count", x -> x.count(4), -1, 0, 0);
        leaves("status", x -> x.status(), -1, 0, 0);
    }
}
