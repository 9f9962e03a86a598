import java.math.BigInteger;
import java.util.ArrayList;
import java.util.Arrays;
import java.util.HashMap;
import java.util.List;
import java.util.Map;
import java.util.TreeSet;

/**
 * The document once more, written as plainly as can be and without care for speed or room:
 * sets are sets, what can be undone is a list of whole yards, searches try everything.
 */
final class Model {
    private static final int NONE = Due.NONE, BAD = Due.BAD, STATE = Due.STATE, FULL = Due.FULL;

    private static final class Hold {
        int sort, a, b;
        boolean loose;
    }

    private static final class Place {
        int reach, loose, note, seconds, falls;
        List<Integer> weights = new ArrayList<>();
        List<Integer> gaps = new ArrayList<>();
        List<Hold> holds = new ArrayList<>();
        List<Integer> kinds = new ArrayList<>();
        List<Integer> forces = new ArrayList<>();
        TreeSet<Integer> down = new TreeSet<>();

        Place twin() {
            Place t = new Place();
            t.reach = reach;
            t.loose = loose;
            t.note = note;
            t.seconds = seconds;
            t.falls = falls;
            t.weights.addAll(weights);
            t.gaps.addAll(gaps);
            t.kinds.addAll(kinds);
            t.forces.addAll(forces);
            t.down.addAll(down);
            for (Hold h : holds) {
                Hold g = new Hold();
                g.sort = h.sort;
                g.a = h.a;
                g.b = h.b;
                g.loose = h.loose;
                t.holds.add(g);
            }
            return t;
        }

        int bikes() {
            return weights.size();
        }

        boolean free(int bike) {
            boolean free = down.contains(bike);
            for (Hold h : holds) {
                free &= !(h.sort == 0 && h.b == bike && down.contains(h.a));
            }
            return free;
        }

        int catches(int bike) {
            int n = 0;
            for (Hold h : holds) {
                boolean here = h.a == bike || h.b == bike;
                n += h.sort == 1 && !h.loose && here && down.contains(h.a) && down.contains(h.b) ? 1 : 0;
            }
            return n;
        }

        /** SECONDS and FALLS of a lift; null: it can not be. */
        int[] takes(int kind, int force, int bike) {
            int w = weights.get(bike);
            int c = catches(bike);
            if (!free(bike) || w > (kind == 3 ? 2 * force : force) || (kind >= 4 && c > 0)) {
                return null;
            }
            switch (kind) {
                case 1: return new int[] {w + 3 * c, c};
                case 2: return new int[] {w + loose * c, 0};
                case 3: return new int[] {(w + 3 * c) / 2, c};
                case 4: return new int[] {w / 2, 0};
                default: return new int[] {w / 2 + note, 0};
            }
        }

        int[] takes(int lifter, int bike) {
            return takes(kinds.get(lifter), forces.get(lifter), bike);
        }

        int[] lift(int kind, int force, int bike) {
            int[] t = takes(kind, force, bike);
            if (t != null) {
                seconds += t[0];
                falls += t[1];
                down.remove(bike);
            }
            return t;
        }

        TreeSet<Integer> fell(int bike, int way) {
            TreeSet<Integer> gone = new TreeSet<>();
            int at = bike;
            while (true) {
                gone.add(at);
                int to = way == 1 ? at + 1 : at - 1;
                if (to < 0 || to >= bikes() || gaps.get(Math.min(at, to)) > reach) {
                    return gone;
                }
                at = to;
            }
        }
    }

    private final int[][] rows = new int[8][];
    private final int[] lanes = new int[8];
    private final List<Integer> tape = new ArrayList<>();
    private final List<Place> before = new ArrayList<>();
    private final Place[] images = new Place[2];
    private List<Integer> trace = new ArrayList<>();
    private Place y;
    private int fault;
    private int status;

    private static int bits(Iterable<Integer> set) {
        int bits = 0;
        for (int i : set) {
            bits += 1 << i;
        }
        return bits;
    }

    private boolean noBike(int b) {
        return y == null || b < 0 || b >= y.bikes();
    }

    private boolean noLifter(int l) {
        return y == null || l < 0 || l >= y.kinds.size();
    }

    private boolean noLifters(int set) {
        return set < 0 || set >= 1 << y.kinds.size();
    }

    private static boolean noRow(int r) {
        return r < 0 || r > 7;
    }

    private int find(int n) {
        status = n;
        return -1000010 - n;
    }

    private int ok(int answer) {
        status = 0;
        return answer;
    }

    int row(int r, int lane, int n) {
        if (noRow(r) || lane < 0 || lane > 2 || n > 40) return BAD;
        if (n < 0) return find(4);
        rows[r] = new int[n];
        lanes[r] = lane;
        return ok(n);
    }

    int set(int r, int i, int v) {
        if (noRow(r)) return BAD;
        if (rows[r] == null) return find(1);
        if (i < 0 || i >= rows[r].length) return find(2);
        int off = new int[] {24, 16, 0}[lanes[r]];
        rows[r][i] = v << off >> off;
        return ok(rows[r][i]);
    }

    int copy(int a, int i, int b, int j, int n) {
        if (noRow(a) || noRow(b)) return BAD;
        if (rows[a] == null || rows[b] == null) return find(1);
        if (lanes[a] != lanes[b]) return find(5);
        if (i < 0 || j < 0 || n < 0 || (long) i + n > rows[a].length || (long) j + n > rows[b].length) return find(2);
        int[] was = rows[a].clone();
        for (int k = 0; k < n; k++) rows[b][j + k] = was[i + k];
        return ok(n);
    }

    int drop(int r) {
        if (noRow(r)) return BAD;
        if (rows[r] == null) return find(1);
        int n = rows[r].length;
        rows[r] = null;
        return ok(n);
    }

    int feed(int letter) {
        if (letter < 0 || letter > 255) return BAD;
        if (tape.size() == 120) return FULL;
        tape.add(letter);
        return tape.size();
    }

    /** Tokens as texts: "5" for every number of one or two figures, "?" for what is none, "" for the end. */
    int yard() {
        StringBuilder all = new StringBuilder();
        for (int b : tape) all.append((char) b);
        tape.clear();
        String text = all.toString();
        Place p = new Place();
        String section = "law";
        List<Integer> numbers = new ArrayList<>();
        String wanted = "y5,5,5;";
        String form = wanted;
        int at = 0;
        int sort = 0;
        while (true) {
            int end = at;
            String tok;
            if (at == text.length()) {
                tok = "";
            } else if (text.charAt(at) >= '0' && text.charAt(at) <= '9') {
                while (end < text.length() && text.charAt(end) >= '0' && text.charAt(end) <= '9') end++;
                tok = end - at > 2 ? "?" : "5";
            } else {
                end++;
                tok = "abcdefghijklmnopqrstuvwxyz,;".indexOf(text.charAt(at)) >= 0 ? text.substring(at, end) : "?";
            }
            if (wanted.isEmpty()) {
                String may = section.equals("law") ? "k" : section.equals("k") ? "koctfpgn" : section.equals("h") ? "octfpgn" : "tfpgn";
                if (tok.isEmpty() && !section.equals("law")) break;
                if (tok.isEmpty() || may.indexOf(tok) < 0) return failed(at, 1);
                section = tok.equals("k") ? "k" : "oc".contains(tok) ? "h" : "l";
                if (section.equals("k") && p.bikes() == 8) return failed(at, 3);
                if (section.equals("h") && p.holds.size() == 10) return failed(at, 3);
                if (section.equals("l") && p.kinds.size() == 4) return failed(at, 3);
                sort = tok.charAt(0);
                wanted = section.equals("l") ? "5;" : "5,5;";
                form = wanted;
                numbers.clear();
            } else {
                if (!tok.equals(wanted.substring(0, 1))) return failed(at, 1);
                wanted = wanted.substring(1);
                if (tok.equals("5")) {
                    numbers.add(Integer.parseInt(text.substring(at, end)));
                    if (!told(p, section, sort, numbers)) return failed(at, 2);
                }
                if (wanted.isEmpty()) settle(p, section, sort, numbers);
            }
            at = end;
        }
        for (int i = 0; i < p.bikes(); i++) p.down.add(i);
        y = p;
        before.clear();
        return y.bikes();
    }

    private int failed(int place, int number) {
        fault = number;
        return -1000100 - place;
    }

    private static boolean told(Place p, String section, int sort, List<Integer> n) {
        int last = n.get(n.size() - 1);
        switch (section) {
            case "law":
                return last >= new int[] {1, 0, 0}[n.size() - 1] && last <= new int[] {9, 9, 20}[n.size() - 1];
            case "k":
                return last >= 1 && last <= new int[] {30, 20}[n.size() - 1];
            case "l":
                return last >= 1 && last <= 40;
            default:
                if (last >= p.bikes()) return false;
                if (n.size() == 1) return true;
                boolean good = !n.get(0).equals(n.get(1));
                for (Hold h : p.holds) {
                    boolean same = (h.a == n.get(0) && h.b == n.get(1)) || (h.b == n.get(0) && h.a == n.get(1));
                    good &= !(same && h.sort == (sort == 'c' ? 1 : 0));
                }
                return good;
        }
    }

    private static void settle(Place p, String section, int sort, List<Integer> n) {
        switch (section) {
            case "law":
                p.reach = n.get(0);
                p.loose = n.get(1);
                p.note = n.get(2);
                break;
            case "k":
                p.weights.add(n.get(0));
                p.gaps.add(n.get(1));
                break;
            case "l":
                p.kinds.add("tfpgn".indexOf(sort) + 1);
                p.forces.add(n.get(0));
                break;
            default:
                Hold h = new Hold();
                h.sort = sort == 'c' ? 1 : 0;
                h.a = n.get(0);
                h.b = n.get(1);
                p.holds.add(h);
                break;
        }
    }

    int fault() {
        return fault;
    }

    int undo() {
        if (before.isEmpty()) return STATE;
        y = before.remove(before.size() - 1);
        return before.size();
    }

    private void keep() {
        before.add(y.twin());
        if (before.size() > 24) before.remove(0);
    }

    int lift(int l, int b) {
        if (noLifter(l) || noBike(b)) return BAD;
        int[] t = y.takes(l, b);
        if (t == null) return STATE;
        keep();
        y.lift(y.kinds.get(l), y.forces.get(l), b);
        return t[0];
    }

    int loosen(int h) {
        if (y == null || h < 0 || h >= y.holds.size()) return BAD;
        if (y.holds.get(h).sort == 0 || y.holds.get(h).loose) return STATE;
        keep();
        y.holds.get(h).loose = true;
        y.seconds += y.loose;
        return y.seconds;
    }

    int fall(int b) {
        if (noBike(b)) return BAD;
        if (y.down.contains(b)) return STATE;
        keep();
        y.down.add(b);
        return ++y.falls;
    }

    int space(int b, int g) {
        if (noBike(b) || g < 1 || g > 20) return BAD;
        keep();
        return y.gaps.set(b, g);
    }

    int bike(int b, int what) {
        if (noBike(b) || what < 0 || what > 4) return BAD;
        int[] all = {y.weights.get(b), y.gaps.get(b), y.down.contains(b) ? 1 : 0, y.free(b) ? 1 : 0, y.catches(b)};
        return all[what];
    }

    int hold(int h, int what) {
        if (y == null || h < 0 || h >= y.holds.size() || what < 0 || what > 3) return BAD;
        Hold one = y.holds.get(h);
        return new int[] {one.sort, one.a, one.b, one.loose ? 1 : 0}[what];
    }

    int takes(int l, int b, int what) {
        if (noLifter(l) || noBike(b) || what < 0 || what > 1) return BAD;
        int[] t = y.takes(l, b);
        return t == null ? NONE : t[what];
    }

    int stand(int what) {
        if (y == null) return STATE;
        TreeSet<Integer> free = new TreeSet<>(y.down);
        free.removeIf(b -> !y.free(b));
        if (what < 0 || what > 3) return BAD;
        return new int[] {y.seconds, y.falls, bits(y.down), bits(free)}[what];
    }

    /** The least {first, then, first lift} by told lifters; null: it can not be. */
    private static int[] best(Place p, int set, boolean gentle, Map<Integer, int[]> known) {
        if (p.down.isEmpty()) return new int[] {0, 0, NONE};
        int key = bits(p.down);
        if (known.containsKey(key)) return known.get(key);
        int[] best = null;
        for (int l = 0; l < p.kinds.size(); l++) {
            for (int b = 0; (set >> l & 1) == 1 && b < p.bikes(); b++) {
                int[] t = p.takes(l, b);
                if (t == null) continue;
                p.down.remove(b);
                int[] rest = best(p, set, gentle, known);
                p.down.add(b);
                if (rest == null) continue;
                int seconds = t[0] + rest[0];
                int falls = t[1] + rest[1];
                boolean better = best == null || (gentle
                    ? falls < best[1] || (falls == best[1] && seconds < best[0])
                    : seconds < best[0]);
                if (better) best = new int[] {seconds, falls, 10 * l + b};
            }
        }
        known.put(key, best);
        return best;
    }

    int soonest(int set, int what) {
        if (y == null) return STATE;
        if (noLifters(set) || what < 0 || what > 1) return BAD;
        int[] b = best(y, set, false, new HashMap<>());
        return b == null ? NONE : what == 0 ? b[0] : b[2];
    }

    int gentlest(int set, int what) {
        if (y == null) return STATE;
        if (noLifters(set) || what < 0 || what > 2) return BAD;
        int[] b = best(y, set, true, new HashMap<>());
        return b == null ? NONE : what == 0 ? b[1] : what == 1 ? b[0] : b[2];
    }

    private static void reach(Place p, int set, TreeSet<Integer> states) {
        if (!states.add(bits(p.down))) return;
        for (int l = 0; l < p.kinds.size(); l++) {
            for (int b = 0; (set >> l & 1) == 1 && b < p.bikes(); b++) {
                if (p.takes(l, b) != null) {
                    p.down.remove(b);
                    reach(p, set, states);
                    p.down.add(b);
                }
            }
        }
    }

    int never(int set) {
        if (y == null) return STATE;
        if (noLifters(set)) return BAD;
        TreeSet<Integer> states = new TreeSet<>();
        reach(y, set, states);
        int left = bits(y.down);
        for (int s : states) left &= s;
        return left;
    }

    int fetch(int what) {
        if (y == null) return STATE;
        if (what < 0 || what > 1) return BAD;
        for (int n = 0; n <= y.kinds.size(); n++) {
            for (int set = 0; set < 1 << y.kinds.size(); set++) {
                if (Integer.bitCount(set) == n && best(y, set, false, new HashMap<>()) != null) return what == 0 ? n : set;
            }
        }
        return NONE;
    }

    /** By the words: 1 more than the greatest of those on it; a chain longer than all BIKES goes round. */
    private int layer(int b, int depth) {
        if (depth > y.bikes()) return NONE;
        if (y.free(b)) return 0;
        int most = 0;
        for (Hold h : y.holds) {
            if (h.sort == 0 && h.b == b && y.down.contains(h.a)) {
                int on = layer(h.a, depth + 1);
                if (on == NONE) return NONE;
                most = Math.max(most, on);
            }
        }
        return most + 1;
    }

    int layer(int b) {
        if (noBike(b)) return BAD;
        return y.down.contains(b) ? layer(b, 0) : NONE;
    }

    int fell(int b, int way) {
        return noBike(b) || way < 0 || way > 1 ? BAD : bits(y.fell(b, way));
    }

    int first(int r, int i) {
        if (y == null) return STATE;
        if (noRow(r)) return BAD;
        if (rows[r] == null) return find(1);
        if (i < 0 || (long) i + y.bikes() > rows[r].length) return find(2);
        int answer = 0;
        for (int b = 0; b < y.bikes(); b++) {
            for (int way = 0; way < 2; way++) {
                int[] so = new int[y.bikes()];
                for (int g : y.fell(b, way)) so[g] = 1;
                if (Arrays.equals(so, Arrays.copyOfRange(rows[r], i, i + so.length))) answer += (1 << b) * (way == 1 ? 1 : 256);
            }
        }
        return ok(answer);
    }

    int widen(int m, int what) {
        if (y == null) return STATE;
        if (m < 1 || m > 8 || what < 0 || what > 1) return BAD;
        for (int n = 0; n < 8; n++) {
            for (int set = 0; set < 1 << (y.bikes() - 1); set++) {
                if (Integer.bitCount(set) != n) continue;
                Place p = y.twin();
                for (int b = 0; b < 8; b++) if ((set >> b & 1) == 1) p.gaps.set(b, 20);
                int most = 0;
                for (int b = 0; b < p.bikes(); b++) most = Math.max(most, Math.max(p.fell(b, 0).size(), p.fell(b, 1).size()));
                if (most <= m) return what == 0 ? n : set;
            }
        }
        throw new IllegalStateException("no gaps");
    }

    int plan(int r, int i, int n, int what) {
        if (y == null) return STATE;
        if (noRow(r) || n < 0 || n > 40 || what < 0 || what > 2) return BAD;
        if (rows[r] == null) return find(1);
        if (i < 0 || (long) i + n > rows[r].length) return find(2);
        Place p = y.twin();
        int done = 0;
        for (int k = 0; k < n; k++) {
            int v = rows[r][i + k];
            if (v < 0 || noLifter(v / 10) || noBike(v % 10)) break;
            if (p.lift(p.kinds.get(v / 10), p.forces.get(v / 10), v % 10) == null) break;
            done++;
        }
        return ok(new int[] {done, p.seconds - y.seconds, p.falls - y.falls}[what]);
    }

    int who(int l, int r, int i, int n) {
        if (noLifter(l) || noRow(r) || n < 1 || n > 8) return BAD;
        if (rows[r] == null) return find(1);
        if (i < 0 || (long) i + 2 * n > rows[r].length) return find(2);
        for (int k = 0; k < n; k++) if (noBike(rows[r][i + 2 * k])) return BAD;
        int answer = 0;
        for (int kind = 1; kind <= 5; kind++) {
            Place p = y.twin();
            boolean so = true;
            for (int k = 0; k < n && so; k++) {
                int[] t = p.lift(kind, p.forces.get(l), rows[r][i + 2 * k]);
                so = t != null && t[0] == rows[r][i + 2 * k + 1];
            }
            answer += so ? 1 << kind : 0;
        }
        return ok(answer);
    }

    /** Every row of n SECONDS, seen or not, by its weight. */
    long seen(int p, int n, int k, int what) {
        if (p < 0 || p > 10 || n < 0 || n > 9 || k < 0 || k > n || what < 0 || what > 1) return BAD;
        BigInteger above = BigInteger.ZERO;
        for (int set = 0; set < 1 << n; set++) {
            if (Integer.bitCount(set) < k) continue;
            BigInteger weight = BigInteger.ONE;
            for (int s = 0; s < n; s++) weight = weight.multiply(BigInteger.valueOf((set >> s & 1) == 1 ? p : 10 - p));
            above = above.add(weight);
        }
        BigInteger below = BigInteger.TEN.pow(n);
        BigInteger shared = above.gcd(below);
        return (what == 0 ? above : below).divide(shared).longValue();
    }

    int drawn(int n, int seed, int what) {
        if (y == null) return STATE;
        if (n < 0 || n > 60 || seed < 1 || seed > 999999 || what < 0 || what > 1) return BAD;
        Place p = y.twin();
        BigInteger x = BigInteger.valueOf(seed);
        for (int day = 0; day < n; day++) {
            x = x.multiply(BigInteger.valueOf(16807)).mod(BigInteger.valueOf(2147483647));
            if (p.kinds.isEmpty()) continue;
            int l = x.mod(BigInteger.valueOf(p.kinds.size())).intValue();
            int b = x.mod(BigInteger.valueOf(p.bikes())).intValue();
            p.lift(p.kinds.get(l), p.forces.get(l), b);
            if (x.mod(BigInteger.valueOf(7)).signum() == 0 && p.down.add(b)) p.falls++;
        }
        return what == 0 ? p.seconds - y.seconds : p.falls - y.falls;
    }

    int image(int k) {
        if (k < 0 || k > 1) return BAD;
        if (y == null) return STATE;
        images[k] = y.twin();
        return 1;
    }

    int restore(int k) {
        if (k < 0 || k > 1) return BAD;
        if (images[k] == null) return STATE;
        y = images[k].twin();
        before.clear();
        return 1;
    }

    int kind(int l) {
        return noLifter(l) ? BAD : y.kinds.get(l);
    }

    int as(int l, int kind) {
        if (noLifter(l) || kind < 0 || kind > 5) return BAD;
        int[] up = {-1, 0, 1, 1, 0, 4};
        for (int k = y.kinds.get(l); k >= 0; k = up[k]) if (k == kind) return ok(l);
        return find(3);
    }

    int ask(int l, int what) {
        if (noLifter(l) || what < 0 || what > 1) return BAD;
        trace = new ArrayList<>();
        return what == 0 ? size(l) : mark(l);
    }

    private int size(int l) {
        return body(new int[] {10, 11, 12, 11, 13, 14}[y.kinds.get(l)], l);
    }

    private int mark(int l) {
        return body(new int[] {20, 21, 24, 22, 23, 23}[y.kinds.get(l)], l);
    }

    private int body(int number, int l) {
        if (trace.size() < 16) trace.add(number);
        switch (number) {
            case 10: return y.forces.get(l);
            case 11: return body(10, l) + mark(l);
            case 12: return -body(11, l);
            case 13: return body(10, l) - 100;
            case 14: return body(13, l) * 2;
            case 20: return l;
            case 21: return body(20, l) + y.down.size();
            case 22: return body(21, l) - 1000;
            case 23: return body(20, l) - size(l);
            default: return body(21, l) * 2;
        }
    }

    int trace(int i) {
        return i < 0 || i >= trace.size() ? NONE : trace.get(i);
    }

    int count(int what) {
        int there = 0;
        for (int[] r : rows) there += r == null ? 0 : 1;
        Place p = y == null ? new Place() : y;
        int[] all = {there, p.bikes(), p.holds.size(), p.kinds.size(), p.seconds, p.falls, before.size(), tape.size()};
        return what < 0 || what > 7 ? BAD : all[what];
    }

    int status() {
        return status;
    }
}
