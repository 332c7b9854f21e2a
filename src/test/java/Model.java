import java.util.ArrayList;
import java.util.List;

/** The document once more, in the slowest and plainest words, to be held against the class. */
final class Model {
    static final int[][] WAY = {{-1, 0}, {-1, 1}, {0, 1}, {1, 1}, {1, 0}, {1, -1}, {0, -1}, {-1, -1}};

    static final class Jib {
        int tower, mast, reach, moment, bearing, radius, hook, sway, work, misses;
        int load = -1;

        Jib copy() {
            Jib c = new Jib();
            c.tower = tower;
            c.mast = mast;
            c.reach = reach;
            c.moment = moment;
            c.bearing = bearing;
            c.radius = radius;
            c.hook = hook;
            c.sway = sway;
            c.work = work;
            c.misses = misses;
            c.load = load;
            return c;
        }
    }

    int wide, high, time, taken, notTaken, refused;
    int[] levels = {};
    List<int[]> winds = new ArrayList<>();
    List<int[]> zones = new ArrayList<>();
    List<Jib> cranes = new ArrayList<>();
    /** WEIGHT and CELL; the CELL is -1 as long as it hangs. */
    List<int[]> loads = new ArrayList<>();

    static void arg(boolean isWrong) {
        if (isWrong) {
            throw new IllegalArgumentException();
        }
    }

    static void state(boolean isWrong) {
        if (isWrong) {
            throw new IllegalStateException();
        }
    }

    static void index(boolean isWrong) {
        if (isWrong) {
            throw new IndexOutOfBoundsException();
        }
    }

    static boolean out(int v, int a, int b) {
        return v < a || v > b;
    }

    void noCell(int cell) {
        index(out(cell, 0, levels.length - 1));
    }

    void noCrane(int crane) {
        index(out(crane, 0, cranes.size() - 1));
    }

    // ---- what things are

    int[] at(int cell) {
        return new int[] {cell / wide, cell % wide};
    }

    int cell(int row, int column) {
        return out(row, 0, high - 1) || out(column, 0, wide - 1) ? -1 : row * wide + column;
    }

    int apart(int one, int other) {
        int[] a = at(one);
        int[] b = at(other);
        return Math.max(Math.abs(a[0] - b[0]), Math.abs(a[1] - b[1]));
    }

    int along(Jib c, int bearing, int far) {
        int[] t = at(c.tower);
        return cell(t[0] + WAY[bearing][0] * far, t[1] + WAY[bearing][1] * far);
    }

    List<Integer> cells(Jib c) {
        List<Integer> all = new ArrayList<>();
        for (int far = 0; far <= c.reach; far++) {
            if (along(c, c.bearing, far) >= 0) {
                all.add(along(c, c.bearing, far));
            }
        }
        return all;
    }

    int plumb(Jib c) {
        return along(c, c.bearing, c.radius);
    }

    int gap(List<Integer> some, List<Integer> others) {
        int least = 99;
        for (int a : some) {
            for (int b : others) {
                least = Math.min(least, apart(a, b));
            }
        }
        return least;
    }

    boolean ruleC(Jib swept, Jib stands, int near) {
        return gap(cells(swept), List.of(stands.tower)) <= near && stands.mast > swept.mast - 3;
    }

    boolean ruleB(Jib low, Jib high, int near) {
        return high.mast - low.mast >= 3 && gap(cells(low), List.of(plumb(high))) <= near && high.hook < low.mast + 2;
    }

    int rule(Jib a, Jib b, int near) {
        if (Math.abs(a.mast - b.mast) < 3 && gap(cells(a), cells(b)) <= near) {
            return 1;
        }
        if (ruleB(a, b, near) || ruleB(b, a, near)) {
            return 2;
        }
        return ruleC(a, b, near) || ruleC(b, a, near) ? 3 : 0;
    }

    int[] windNow() {
        int[] best = {0, 0, 0};
        for (int t = 0; t <= time; t++) {
            for (int[] w : winds) {
                if (w[0] == t) {
                    best = w;
                }
            }
        }
        return best;
    }

    int capacity(Jib c, int radius) {
        int all = c.moment / radius;
        for (int f = 5; f <= windNow()[1]; f++) {
            all -= 2;
        }
        return all < 0 ? 0 : all;
    }

    int hour() {
        return (time / 20) % 24;
    }

    boolean shut(int cell) {
        for (int[] z : zones) {
            boolean in = false;
            for (int r = 0; r < z[2]; r++) {
                for (int c = 0; c < z[1]; c++) {
                    in |= z[0] + r * wide + c == cell;
                }
            }
            boolean now = false;
            for (int h = z[3], n = 0; n < 24; h = (h + 1) % 24, n++) {
                now |= h == hour();
                if (h == z[4]) {
                    break;
                }
            }
            if (in && now) {
                return true;
            }
        }
        return false;
    }

    int towerOn(int cell) {
        for (int k = 0; k < cranes.size(); k++) {
            if (cranes.get(k).tower == cell) {
                return k;
            }
        }
        return -1;
    }

    List<Integer> lying(int cell) {
        List<Integer> all = new ArrayList<>();
        for (int k = 0; k < loads.size(); k++) {
            if (loads.get(k)[1] == cell) {
                all.add(k);
            }
        }
        return all;
    }

    int holder(int load) {
        for (int k = 0; k < cranes.size(); k++) {
            if (cranes.get(k).load == load) {
                return k;
            }
        }
        return -1;
    }

    int placeOf(int load) {
        int holder = holder(load);
        return holder < 0 ? loads.get(load)[1] : plumb(cranes.get(holder));
    }

    int weight(int load) {
        return loads.get(load)[0];
    }

    // ---- the yard

    int yard(int w, int h) {
        arg(out(w, 6, 14) || out(h, 6, 14));
        int kept = refused;
        wide = w;
        high = h;
        levels = new int[w * h];
        winds = new ArrayList<>();
        zones = new ArrayList<>();
        cranes = new ArrayList<>();
        loads = new ArrayList<>();
        time = taken = notTaken = 0;
        refused = kept;
        return levels.length;
    }

    int level(int cell, int level) {
        noCell(cell);
        arg(out(level, 0, 20));
        state(towerOn(cell) >= 0 || !lying(cell).isEmpty());
        for (Jib c : cranes) {
            state(plumb(c) == cell && (c.load < 0 ? c.hook <= level : c.hook < level + 2));
        }
        int before = levels[cell];
        levels[cell] = level;
        return before;
    }

    int wind(int t, int force, int bearing) {
        arg(out(t, 0, 600) || out(force, 0, 9) || out(bearing, 0, 7));
        state(winds.size() == 12);
        winds.add(new int[] {t, force, bearing});
        return winds.size();
    }

    int zone(int cell, int w, int h, int from, int to) {
        noCell(cell);
        arg(w < 1 || h < 1 || (long) at(cell)[1] + w > wide || (long) at(cell)[0] + h > high);
        arg(out(from, 0, 23) || out(to, 0, 23));
        state(zones.size() == 4);
        zones.add(new int[] {cell, w, h, from, to});
        return zones.size() - 1;
    }

    int load(int cell, int weight) {
        noCell(cell);
        arg(out(weight, 1, 60));
        state(loads.size() == 8 || towerOn(cell) >= 0);
        loads.add(new int[] {weight, cell});
        return loads.size() - 1;
    }

    // ---- cranes

    int crane(int cell, int mast, int reach, int moment, int bearing) {
        noCell(cell);
        arg(out(mast, 3, 30) || out(reach, 2, 9) || out(moment, 5, 400) || out(bearing, 0, 7));
        state(cranes.size() == 4 || towerOn(cell) >= 0 || !lying(cell).isEmpty() || levels[cell] > 0);
        Jib c = new Jib();
        c.tower = cell;
        c.mast = mast;
        c.reach = reach;
        c.moment = moment;
        c.bearing = bearing;
        c.radius = 1;
        c.hook = mast - 1;
        state(plumb(c) < 0);
        state(c.hook <= levels[plumb(c)]);
        for (Jib other : cranes) {
            state(rule(c, other, 1) > 0);
        }
        cranes.add(c);
        return cranes.size() - 1;
    }

    Jib moved(Jib c, int motion) {
        Jib m = c.copy();
        m.bearing = motion == 0 ? (c.bearing + 1) % 8 : motion == 1 ? (c.bearing + 7) % 8 : c.bearing;
        m.radius += motion == 2 ? 1 : motion == 3 ? -1 : 0;
        m.hook += motion == 4 ? 1 : motion == 5 ? -1 : 0;
        return m;
    }

    boolean holds(int reason, Jib real, Jib m, int motion) {
        switch (reason) {
            case 1: return m.radius < 1 || m.radius > m.reach || m.hook > m.mast - 1 || plumb(m) < 0;
            case 2: return windNow()[1] > 6 && motion != 6;
            case 3: return real.work >= 30 && motion != 6;
            case 4: return m.load >= 0 && weight(m.load) > capacity(m, m.radius);
            case 5: return m.load >= 0 && shut(plumb(m));
            case 6: return m.hook <= levels[plumb(m)] || m.load >= 0 && motion <= 3 && m.hook < levels[plumb(m)] + 2;
            default:
                for (Jib other : cranes) {
                    if (other != real && rule(real, other, 1) == 0 && rule(m, other, 1) > 0) {
                        return true;
                    }
                }
                return false;
        }
    }

    int reason(Jib real, int motion) {
        for (int reason = 1; reason <= 7; reason++) {
            if (!(motion == 6 && reason >= 3) && holds(reason, real, moved(real, motion), motion)) {
                return reason;
            }
        }
        return 0;
    }

    boolean free(Jib real, Jib m) {
        for (int reason : new int[] {1, 4, 5, 6, 7}) {
            if (holds(reason, real, m, 0)) {
                return false;
            }
        }
        return true;
    }

    int step(int crane, int motion) {
        noCrane(crane);
        arg(out(motion, 0, 6));
        state(time == 600);
        Jib c = cranes.get(crane);
        int reason = reason(c, motion);
        if (reason > 0) {
            notTaken++;
            return reason;
        }
        Jib m = moved(c, motion);
        c.bearing = m.bearing;
        c.radius = m.radius;
        c.hook = m.hook;
        time++;
        taken++;
        c.sway = motion < 2 ? Math.min(20, c.sway + (c.load >= 0 ? 3 : 2)) : Math.max(0, c.sway - 1);
        c.work = motion == 6 ? 0 : c.work + 1;
        for (Jib other : cranes) {
            if (motion != 6 && other != c && rule(c, other, 1) == 0 && rule(c, other, 2) > 0) {
                c.misses++;
            }
        }
        return 0;
    }

    int hang(int crane) {
        noCrane(crane);
        Jib c = cranes.get(crane);
        List<Integer> there = lying(plumb(c));
        if (there.isEmpty() || c.load >= 0 || c.hook != levels[plumb(c)] + 1 || c.sway > 1) {
            return -1;
        }
        int load = there.get(0);
        if (weight(load) > capacity(c, c.radius)) {
            return -1;
        }
        c.load = load;
        loads.get(load)[1] = -1;
        return load;
    }

    int set(int crane) {
        noCrane(crane);
        Jib c = cranes.get(crane);
        if (c.load < 0 || c.hook != levels[plumb(c)] + 1 || c.sway > 1 || towerOn(plumb(c)) >= 0) {
            return -1;
        }
        int load = c.load;
        loads.get(load)[1] = plumb(c);
        c.load = -1;
        return load;
    }

    int hand(int from, int to) {
        noCrane(from);
        noCrane(to);
        arg(from == to);
        Jib a = cranes.get(from);
        Jib b = cranes.get(to);
        if (a.load < 0 || b.load >= 0 || apart(plumb(a), plumb(b)) > 2 || Math.abs(a.hook - b.hook) > 2) {
            return -1;
        }
        if (a.sway > 1 || b.sway > 1 || weight(a.load) > capacity(b, b.radius) || b.hook < levels[plumb(b)] + 2) {
            return -1;
        }
        b.load = a.load;
        a.load = -1;
        return b.load;
    }

    int rest(int much) {
        arg(out(much, 1, 100));
        state(time + much > 600);
        int turned = 0;
        time += much;
        for (Jib c : cranes) {
            c.sway = Math.max(0, c.sway - much);
            Jib m = c.copy();
            m.bearing = windNow()[2];
            m.radius = 1;
            m.hook = c.mast - 1;
            if (windNow()[1] >= 8 && c.load < 0 && plumb(m) >= 0 && m.hook > levels[plumb(m)]) {
                turned += c.bearing == m.bearing ? 0 : 1;
                c.bearing = m.bearing;
                c.radius = m.radius;
                c.hook = m.hook;
            }
        }
        return turned;
    }

    // ---- what is so

    int clashes(int crane) {
        int sum = 0;
        for (int k = 0; k < cranes.size(); k++) {
            sum += k != crane && rule(cranes.get(crane), cranes.get(k), 1) > 0 ? 1 << k : 0;
        }
        return sum;
    }

    int ofCrane(int crane, int what) {
        noCrane(crane);
        arg(out(what, 0, 14));
        Jib c = cranes.get(crane);
        int[] all = {c.tower, c.mast, c.reach, c.moment, c.bearing, c.radius, c.hook, c.sway, c.work, c.load,
            plumb(c), capacity(c, c.radius), cells(c).size(), clashes(crane), c.misses};
        return all[what];
    }

    boolean lift(Jib c, int cell, int weight) {
        for (int bearing = 0; bearing < 8; bearing++) {
            for (int radius = 1; radius <= c.reach; radius++) {
                if (along(c, bearing, radius) == cell && capacity(c, radius) >= weight) {
                    return true;
                }
            }
        }
        return false;
    }

    int ofLoad(int load, int what) {
        index(out(load, 0, loads.size() - 1));
        arg(out(what, 0, 3));
        int lifters = 0;
        for (int k = 0; k < cranes.size(); k++) {
            lifters += lift(cranes.get(k), placeOf(load), weight(load)) ? 1 << k : 0;
        }
        return new int[] {weight(load), placeOf(load), holder(load), lifters}[what];
    }

    int ofCell(int cell, int what) {
        noCell(cell);
        arg(out(what, 0, 4));
        int over = 0;
        for (int k = 0; k < cranes.size(); k++) {
            over += cells(cranes.get(k)).contains(cell) ? 1 << k : 0;
        }
        return new int[] {levels[cell], lying(cell).size(), over, towerOn(cell), shut(cell) ? 1 : 0}[what];
    }

    int would(int crane, int motion) {
        noCrane(crane);
        arg(out(motion, 0, 6));
        return time == 600 ? -1 : reason(cranes.get(crane), motion);
    }

    int clash(int one, int other) {
        noCrane(one);
        noCrane(other);
        arg(one == other);
        return rule(cranes.get(one), cranes.get(other), 1);
    }

    /** Steps to each pose of a bearing and a radius, found by going over all of them until nothing gets less. */
    int[][] far(Jib c) {
        int[][] far = new int[8][c.reach + 1];
        boolean[][] free = new boolean[8][c.reach + 1];
        for (int b = 0; b < 8; b++) {
            for (int r = 1; r <= c.reach; r++) {
                Jib m = c.copy();
                m.bearing = b;
                m.radius = r;
                free[b][r] = free(c, m);
                far[b][r] = 999;
            }
        }
        far[c.bearing][c.radius] = 0;
        for (boolean isLess = true; isLess;) {
            isLess = false;
            for (int b = 0; b < 8; b++) {
                for (int r = 1; r <= c.reach; r++) {
                    int least = Math.min(far[(b + 1) % 8][r], far[(b + 7) % 8][r]);
                    least = Math.min(least, Math.min(r > 1 ? far[b][r - 1] : 999, r < c.reach ? far[b][r + 1] : 999));
                    if (free[b][r] && least + 1 < far[b][r]) {
                        far[b][r] = least + 1;
                        isLess = true;
                    }
                }
            }
        }
        return far;
    }

    int way(int crane, int cell) {
        noCrane(crane);
        noCell(cell);
        Jib c = cranes.get(crane);
        int[][] far = far(c);
        int least = 999;
        for (int b = 0; b < 8; b++) {
            for (int r = 1; r <= c.reach; r++) {
                least = along(c, b, r) == cell ? Math.min(least, far[b][r]) : least;
            }
        }
        return least == 999 ? -1 : least;
    }

    int field(int crane) {
        noCrane(crane);
        int sum = 0;
        for (int[] some : far(cranes.get(crane))) {
            for (int r = 1; r < some.length; r++) {
                sum += some[r] < 999 ? 1 : 0;
            }
        }
        return sum;
    }

    int swing(int crane, boolean isBack) {
        noCrane(crane);
        Jib c = cranes.get(crane);
        Jib m = c;
        for (int count = 0; count < 7; count++) {
            m = moved(m, isBack ? 1 : 0);
            if (!free(c, m)) {
                return count;
            }
        }
        return 7;
    }

    List<Integer> leaving() {
        List<Integer> gone = new ArrayList<>();
        for (boolean isMore = true; isMore;) {
            isMore = false;
            for (int k = 0; k < cranes.size() && !isMore; k++) {
                Jib c = cranes.get(k);
                boolean can = c.mast <= 8;
                for (int j = 0; j < cranes.size(); j++) {
                    Jib by = cranes.get(j);
                    can |= j != k && !gone.contains(j) && by.mast >= c.mast && lift(by, c.tower, c.mast + c.reach);
                }
                if (can && !gone.contains(k)) {
                    gone.add(k);
                    isMore = true;
                }
            }
        }
        return gone;
    }

    int order(int nth) {
        arg(nth < 0);
        return nth < leaving().size() ? leaving().get(nth) : -1;
    }

    int many(int what) {
        arg(out(what, 0, 14));
        int pairs = 0;
        int misses = 0;
        int hanging = 0;
        for (int k = 0; k < cranes.size(); k++) {
            for (int j = 0; j < k; j++) {
                pairs += rule(cranes.get(k), cranes.get(j), 1) > 0 ? 1 : 0;
            }
            misses += cranes.get(k).misses;
            hanging += cranes.get(k).load >= 0 ? 1 : 0;
        }
        return new int[] {levels.length, time, hour(), cranes.size(), loads.size(), zones.size(), windNow()[1],
            windNow()[2], pairs, misses, taken, notTaken, hanging, leaving().size(), refused}[what];
    }

    String drawn(int row) {
        index(out(row, 0, high - 1));
        String text = "";
        for (int column = 0; column < wide; column++) {
            int cell = cell(row, column);
            boolean isPlumb = false;
            for (Jib c : cranes) {
                isPlumb |= plumb(c) == cell;
            }
            text += towerOn(cell) >= 0 ? "" + towerOn(cell) : isPlumb ? "v" : ofCell(cell, 2) != 0 ? "="
                : levels[cell] > 0 ? "#" : !lying(cell).isEmpty() ? "*" : ".";
        }
        return text;
    }

    boolean isSound() {
        for (int k = 0; k < cranes.size(); k++) {
            Jib c = cranes.get(k);
            boolean isRight = towerOn(c.tower) == k && levels[c.tower] == 0 && !out(c.radius, 1, c.reach)
                && !out(c.hook, 1, c.mast - 1) && !out(c.sway, 0, 20) && plumb(c) >= 0
                && (c.load < 0 || loads.get(c.load)[1] < 0 && holder(c.load) == k);
            if (!isRight) {
                return false;
            }
        }
        return true;
    }

    int knock() {
        return ++refused;
    }

    long digest() {
        long d = 8821;
        for (int what = 0; what < 15; what++) {
            d = d * 31 + many(what);
        }
        for (int cell = 0; cell < levels.length; cell++) {
            for (int what = 0; what < 5; what++) {
                d = d * 31 + ofCell(cell, what);
            }
        }
        for (int crane = 0; crane < cranes.size(); crane++) {
            for (int what = 0; what < 15; what++) {
                d = d * 31 + ofCrane(crane, what);
            }
            for (int motion = 0; motion < 7; motion++) {
                d = d * 31 + would(crane, motion);
            }
            d = d * 31 + field(crane);
            d = d * 31 + swing(crane, false);
            d = d * 31 + swing(crane, true);
        }
        for (int load = 0; load < loads.size(); load++) {
            for (int what = 0; what < 4; what++) {
                d = d * 31 + ofLoad(load, what);
            }
        }
        return d * 31 + (isSound() ? 1 : 0);
    }
}
