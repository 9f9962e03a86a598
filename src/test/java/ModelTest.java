import java.util.ArrayList;
import java.util.List;
import java.util.Random;

/** Runs of drawn calls, each answered by the class and by the model. */
public final class ModelTest {
    private static final int RUNS = 400;
    private static final int CALLS = 512;

    private final Random random;
    private final NineDown x = new NineDown();
    private final Model m = new Model();
    private final List<String> calls = new ArrayList<>();

    private ModelTest(long seed) {
        random = new Random(seed);
    }

    public static void main(String[] args) {
        long told = args.length > 0 ? Long.parseLong(args[0]) : 1;
        int runs = args.length > 1 ? Integer.parseInt(args[1]) : RUNS;
        Due.test("Model: " + runs + " drawn runs of " + CALLS + " calls", () -> {
            boolean good = true;
            for (int run = 0; run < runs && good; run++) {
                good = new ModelTest(told * 1000003 + run).agrees();
                Due.due("the run of seed " + told + ", " + run, good ? 1 : 0, 1);
            }
        });
        Due.end();
    }

    private boolean agrees() {
        // runs with few yards come to more ACTS than are kept
        int rarely = random.nextInt(3) == 0 ? 300 : 25;
        boolean good = random.nextInt(5) == 0 || tell();
        while (good && calls.size() < CALLS) {
            good = random.nextInt(rarely) == 0 ? tell() : call(random.nextInt(39));
        }
        for (int i = Math.max(0, calls.size() - 150); !good && i < calls.size(); i++) {
            System.out.println(calls.get(i));
        }
        return good;
    }

    private boolean same(String call, long got, long want) {
        calls.add(call + " = " + got + (got == want ? "" : ", the model: " + want));
        return got == want;
    }

    private int upTo(int n) {
        return random.nextInt(n + 1);
    }

    /** Mostly 0 to n, now and then beyond. */
    private int about(int n) {
        int luck = random.nextInt(40);
        if (luck == 0) return -1;
        if (luck == 1) return n + 1;
        if (luck == 2) return random.nextInt();
        return upTo(n);
    }

    private boolean tell() {
        StringBuilder text = new StringBuilder(drawYard());
        if (random.nextInt(3) == 0 && text.length() > 0) spoil(text);
        boolean good = true;
        for (int i = 0; i < text.length() && good; i++) {
            int letter = text.charAt(i);
            good = same("feed(" + letter + ")", x.feed(letter), m.feed(letter));
        }
        return good && same("yard()", x.yard(), m.yard()) && same("fault()", x.fault(), m.fault());
    }

    private String drawYard() {
        StringBuilder t = new StringBuilder();
        t.append('y').append(1 + upTo(8)).append(',').append(upTo(9)).append(',').append(upTo(20)).append(';');
        int bikes = 1 + upTo(random.nextInt(20) == 0 ? 8 : 7);
        int weights = 1 + upTo(29);
        for (int i = 0; i < bikes; i++) {
            t.append('k').append(1 + upTo(weights - 1)).append(',').append(1 + upTo(random.nextInt(3) == 0 ? 19 : 9)).append(';');
        }
        int holds = upTo(random.nextInt(20) == 0 ? 11 : 9);
        boolean[][][] used = new boolean[2][9][9];
        for (int i = 0; i < holds; i++) {
            int a = upTo(bikes - 1);
            int b = upTo(bikes - 1);
            int sort = upTo(1);
            if (random.nextInt(60) != 0 && (a == b || used[sort][a][b])) continue;
            used[sort][a][b] = true;
            used[sort][b][a] = true;
            t.append("oc".charAt(sort)).append(a).append(',').append(b).append(';');
        }
        int lifters = upTo(random.nextInt(20) == 0 ? 5 : 4);
        for (int i = 0; i < lifters; i++) {
            t.append("tfpgn".charAt(upTo(4))).append(1 + upTo(weights + 8)).append(';');
        }
        return t.toString();
    }

    private void spoil(StringBuilder text) {
        String signs = "y k o c t f p g n , ; 0 1 9 12 345 A k1,1; o0,1; ";
        int at = random.nextInt(text.length());
        int from = random.nextInt(signs.length());
        String piece = signs.substring(from, Math.min(signs.length(), from + 1 + upTo(3)));
        switch (upTo(3)) {
            case 0: text.deleteCharAt(at); break;
            case 1: text.insert(at, piece); break;
            case 2: text.setLength(at); break;
            default: text.setCharAt(at, (char) (upTo(9) == 0 ? upTo(255) : piece.charAt(0))); break;
        }
    }

    private int lifters() {
        int n = m.count(3);
        return random.nextInt(3) == 0 ? (1 << n) - 1 : about((1 << n) - 1);
    }

    private int item(int way) {
        int bikes = Math.max(1, m.count(1));
        int crew = Math.max(1, m.count(3));
        if (random.nextInt(30) == 0) return random.nextInt();
        if (way == 0) return upTo(1);
        if (way == 1) return 10 * upTo(crew - 1) + upTo(bikes - 1);
        return upTo(bikes - 1);
    }

    /** Fills a row with what makes sense to first, plan or who, and asks. */
    private boolean tellRow() {
        int r = upTo(7);
        int way = upTo(2);
        int n = way == 0 ? Math.max(1, m.count(1)) : 2 * (1 + upTo(3));
        int lane = upTo(2);
        boolean good = same("row", x.row(r, lane, n), m.row(r, lane, n));
        int crew = upTo(Math.max(0, m.count(3) - 1));
        int bike = 0;
        int lean = m.fell(upTo(Math.max(0, m.count(1) - 1)), upTo(1));
        for (int i = 0; i < n && good; i++) {
            int v = way == 0 && random.nextInt(20) != 0 ? lean >> i & 1 : item(way);
            if (way == 2 && i % 2 == 1) {
                v = m.takes(crew, bike, 0);
            }
            bike = v;
            good = same("set(" + r + "," + i + "," + v + ")", x.set(r, i, v), m.set(r, i, v));
        }
        if (way == 0) return good && same("first(" + r + ", 0)", x.first(r, 0), m.first(r, 0));
        if (way == 1) {
            for (int what = 0; what < 3 && good; what++) {
                good = same("plan(" + r + ",0," + n + "," + what + ")", x.plan(r, 0, n, what), m.plan(r, 0, n, what));
            }
            return good;
        }
        for (int k = 1; k <= n / 2 && good; k++) {
            good = same("who(" + crew + "," + r + ",0," + k + ")", x.who(crew, r, 0, k), m.who(crew, r, 0, k));
        }
        return good;
    }

    /** Acts by the dozen, then about as many undone. */
    private boolean manyActs() {
        boolean good = true;
        for (int i = upTo(60); i > 0 && good; i--) {
            good = call(8 + upTo(4));
        }
        for (int i = upTo(30); i > 0 && good; i--) {
            int what = upTo(7);
            good = call(6) && same("count(" + what + ")", x.count(what), m.count(what));
        }
        return good;
    }

    private boolean call(int which) {
        int bikes = Math.max(0, m.count(1) - 1);
        int crew = Math.max(0, m.count(3) - 1);
        int a = about(7), b = about(12), c = about(7), d = about(12), e = about(6);
        int bike = about(bikes), one = about(crew), hold = about(Math.max(0, m.count(2) - 1));
        int set = lifters(), what = about(1), what2 = about(2), what4 = about(4), way = about(1);
        switch (which) {
            case 0: return same("row(" + a + "," + what2 + "," + b + ")", x.row(a, what2, b), m.row(a, what2, b));
            case 1: int v = random.nextBoolean() ? random.nextInt() : upTo(300) - 150;
                return same("set(" + a + "," + b + "," + v + ")", x.set(a, b, v), m.set(a, b, v));
            case 2: return same("copy(" + a + "," + b + "," + c + "," + d + "," + e + ")", x.copy(a, b, c, d, e), m.copy(a, b, c, d, e));
            case 3: return same("drop(" + a + ")", x.drop(a), m.drop(a));
            case 4: case 5: return tellRow();
            case 6: return same("undo()", x.undo(), m.undo());
            case 7: return same("fault()", x.fault(), m.fault());
            case 8: case 9: return same("lift(" + one + "," + bike + ")", x.lift(one, bike), m.lift(one, bike));
            case 10: return same("loosen(" + hold + ")", x.loosen(hold), m.loosen(hold));
            case 11: return same("fall(" + bike + ")", x.fall(bike), m.fall(bike));
            case 12: int gap = about(21);
                return same("space(" + bike + "," + gap + ")", x.space(bike, gap), m.space(bike, gap));
            case 13: return same("bike(" + bike + "," + what4 + ")", x.bike(bike, what4), m.bike(bike, what4));
            case 14: int w3 = about(3);
                return same("hold(" + hold + "," + w3 + ")", x.hold(hold, w3), m.hold(hold, w3));
            case 15: return same("takes(" + one + "," + bike + "," + what + ")", x.takes(one, bike, what), m.takes(one, bike, what));
            case 16: int s3 = about(3);
                return same("stand(" + s3 + ")", x.stand(s3), m.stand(s3));
            case 17: case 18: return same("soonest(" + set + "," + what + ")", x.soonest(set, what), m.soonest(set, what));
            case 19: case 20: return same("gentlest(" + set + "," + what2 + ")", x.gentlest(set, what2), m.gentlest(set, what2));
            case 21: return same("never(" + set + ")", x.never(set), m.never(set));
            case 22: return same("fetch(" + what + ")", x.fetch(what), m.fetch(what));
            case 23: return same("layer(" + bike + ")", x.layer(bike), m.layer(bike));
            case 24: return same("fell(" + bike + "," + way + ")", x.fell(bike, way), m.fell(bike, way));
            case 25: return same("first(" + a + "," + b + ")", x.first(a, b), m.first(a, b));
            case 26: int w = about(8);
                return same("widen(" + w + "," + what + ")", x.widen(w, what), m.widen(w, what));
            case 27: int n = about(40);
                return same("plan(" + a + "," + e + "," + n + "," + what2 + ")", x.plan(a, e, n, what2), m.plan(a, e, n, what2));
            case 28: return same("who(" + one + "," + a + "," + e + "," + c + ")", x.who(one, a, e, c), m.who(one, a, e, c));
            case 29: int p = about(10), sn = about(9), k = about(9);
                return same("seen(" + p + "," + sn + "," + k + "," + what + ")", x.seen(p, sn, k, what), m.seen(p, sn, k, what));
            case 30: int days = about(60), seed = about(999999);
                return same("drawn(" + days + "," + seed + "," + what + ")", x.drawn(days, seed, what), m.drawn(days, seed, what));
            case 31: return same("image(" + what + ")", x.image(what), m.image(what));
            case 32: return random.nextInt(6) != 0 || same("restore(" + what + ")", x.restore(what), m.restore(what));
            case 33: return same("kind(" + one + ")", x.kind(one), m.kind(one));
            case 34: int kd = about(5);
                return same("as(" + one + "," + kd + ")", x.as(one, kd), m.as(one, kd));
            case 35: return same("ask(" + one + "," + what + ")", x.ask(one, what), m.ask(one, what));
            case 36: return same("trace(" + e + ")", x.trace(e), m.trace(e));
            case 37: return random.nextInt(4) != 0 || manyActs();
            default: int cw = about(7);
                return same("count(" + cw + ")", x.count(cw), m.count(cw)) && same("status()", x.status(), m.status());
        }
    }
}
