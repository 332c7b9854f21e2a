import java.util.ArrayList;
import java.util.Arrays;

/** Cranes on one yard that must never touch. The words in capitals are those of the document's terms. */
public final class Slewyard {
    private static final int NONE = -1;

    private static final int LEAST_SIDE = 6;
    private static final int MOST_SIDE = 14;
    private static final int MOST_CELLS = MOST_SIDE * MOST_SIDE;
    private static final int MOST_LEVEL = 20;

    private static final int LAST_TIME = 600;
    private static final int TIME_OF_AN_HOUR = 20;
    private static final int HOURS = 24;
    private static final int MOST_REST = 100;

    private static final int MOST_REPORTS = 12;
    private static final int MOST_FORCE = 9;
    private static final int FORCE_THAT_WEAKENS = 4;
    private static final int FORCE_THAT_STOPS = 6;
    private static final int FORCE_THAT_TURNS = 8;

    private static final int MOST_ZONES = 4;
    private static final int MOST_LOADS = 8;
    private static final int MOST_WEIGHT = 60;

    private static final int MOST_CRANES = 4;
    private static final int LEAST_MAST = 3;
    private static final int MOST_MAST = 30;
    private static final int LEAST_REACH = 2;
    private static final int MOST_REACH = 9;
    private static final int LEAST_MOMENT = 5;
    private static final int MOST_MOMENT = 400;
    private static final int MOST_SWAY = 20;
    private static final int CALM_SWAY = 1;
    private static final int MOST_WORK = 30;
    private static final int MAST_THAT_FOLDS_ITSELF = 8;

    private static final int LAST_BEARING = 7;
    private static final int[] ROW_STEPS = {-1, -1, 0, 1, 1, 1, 0, -1};
    private static final int[] COLUMN_STEPS = {0, 1, 1, 1, 0, -1, -1, -1};

    private static final int SWING_ON = 0;
    private static final int SWING_BACK = 1;
    private static final int TROLLEY_OUT = 2;
    private static final int TROLLEY_IN = 3;
    private static final int HOOK_UP = 4;
    private static final int HOOK_DOWN = 5;
    private static final int REST = 6;

    private static final int TOUCHING = 1;
    private static final int NEARLY_TOUCHING = 2;
    private static final int MASTS_CLEAR = 3;
    private static final int HOOK_CLEAR = 2;
    private static final int HAND_APART = 2;
    private static final int ALL_CRANES = -1;

    private static final int LAST_OF_CRANE = 14;
    private static final int LAST_OF_LOAD = 3;
    private static final int LAST_OF_CELL = 4;
    private static final int LAST_OF_MANY = 14;
    private static final long DIGEST_START = 8821;
    private static final long DIGEST_FACTOR = 31;

    private final Site site;
    private final Plans plans;
    private int refused;

    public Slewyard() {
        Site bare = new Site(new Ground());
        site = bare;
        plans = new Plans(bare);
        refused = 0;
    }

    // ---- the yard

    public int yard(int wide, int high) throws IllegalArgumentException {
        needWithin(wide, LEAST_SIDE, MOST_SIDE);
        needWithin(high, LEAST_SIDE, MOST_SIDE);
        site.lay(wide, high);
        return site.ground.cells();
    }

    public int level(int cell, int level)
            throws IndexOutOfBoundsException, IllegalArgumentException, IllegalStateException {
        needCell(cell);
        needWithin(level, 0, MOST_LEVEL);
        if (!site.canBuild(cell, level)) {
            throw new IllegalStateException("something stands, lies or hangs in the way");
        }
        int before = site.ground.levelOf(cell);
        site.ground.build(cell, level);
        return before;
    }

    public int wind(int time, int force, int bearing) throws IllegalArgumentException, IllegalStateException {
        needWithin(time, 0, LAST_TIME);
        needWithin(force, 0, MOST_FORCE);
        needWithin(bearing, 0, LAST_BEARING);
        if (site.reports.size() >= MOST_REPORTS) {
            throw new IllegalStateException("no more reports of the wind");
        }
        site.reports.add(new Report(time, force, bearing));
        return site.reports.size();
    }

    public int zone(int cell, int wide, int high, int from, int to)
            throws IndexOutOfBoundsException, IllegalArgumentException, IllegalStateException {
        needCell(cell);
        int row = site.ground.rowOf(cell);
        int column = site.ground.columnOf(cell);
        needWithin(wide, 1, site.ground.wide - column);
        needWithin(high, 1, site.ground.high - row);
        needWithin(from, 0, HOURS - 1);
        needWithin(to, 0, HOURS - 1);
        if (site.zones.size() >= MOST_ZONES) {
            throw new IllegalStateException("no more zones");
        }
        site.zones.add(new Zone(row, column, row + high - 1, column + wide - 1, from, to));
        return site.zones.size() - 1;
    }

    public int load(int cell, int weight)
            throws IndexOutOfBoundsException, IllegalArgumentException, IllegalStateException {
        needCell(cell);
        needWithin(weight, 1, MOST_WEIGHT);
        int number = site.loads.size();
        if (number >= MOST_LOADS || site.towerOn(cell) != NONE) {
            throw new IllegalStateException("no more loads, or none there");
        }
        site.loads.add(new Load(number, cell, weight));
        return number;
    }

    // ---- cranes

    public int crane(int cell, int mast, int reach, int moment, int bearing)
            throws IndexOutOfBoundsException, IllegalArgumentException, IllegalStateException {
        needCell(cell);
        needWithin(mast, LEAST_MAST, MOST_MAST);
        needWithin(reach, LEAST_REACH, MOST_REACH);
        needWithin(moment, LEAST_MOMENT, MOST_MOMENT);
        needWithin(bearing, 0, LAST_BEARING);
        int number = site.cranes.size();
        if (number >= MOST_CRANES || !site.canFound(cell)) {
            throw new IllegalStateException("no more cranes, or none there");
        }
        Crane newcomer = new Crane(site.ground, number, cell, mast, reach, moment);
        newcomer.drawIn(bearing);
        if (site.hindrance(newcomer, false, 0) != 0) {
            throw new IllegalStateException("no room for it");
        }
        site.cranes.add(newcomer);
        return number;
    }

    public int step(int crane, int motion)
            throws IndexOutOfBoundsException, IllegalArgumentException, IllegalStateException {
        Crane mover = needCrane(crane);
        needWithin(motion, SWING_ON, REST);
        if (site.time >= LAST_TIME) {
            throw new IllegalStateException("the time is over");
        }
        int reason = site.reasonAgainst(mover, motion);
        if (reason == 0) {
            site.take(mover, motion);
        } else {
            site.notTaken++;
        }
        return reason;
    }

    public int hang(int crane) throws IndexOutOfBoundsException {
        Crane taker = needCrane(crane);
        Load lying = site.firstLoadOn(taker.plumb());
        if (lying == null || taker.load != null || !taker.isJustAbove()
                || lying.weight > site.capacityOf(taker, taker.radius)) {
            return NONE;
        }
        lying.hangOn(taker);
        return lying.number;
    }

    public int set(int crane) throws IndexOutOfBoundsException {
        Crane giver = needCrane(crane);
        Load hanging = giver.load;
        int cell = giver.plumb();
        if (hanging == null || !giver.isJustAbove() || site.towerOn(cell) != NONE) {
            return NONE;
        }
        giver.load = null;
        hanging.lieOn(cell);
        return hanging.number;
    }

    public int hand(int from, int to) throws IndexOutOfBoundsException, IllegalArgumentException {
        Crane giver = needCrane(from);
        Crane taker = needCrane(to);
        if (from == to) {
            throw new IllegalArgumentException("a crane can not hand to itself");
        }
        Load handed = giver.load;
        if (handed == null || taker.load != null || !giver.canMeet(taker)
                || handed.weight > site.capacityOf(taker, taker.radius) || taker.above() < HOOK_CLEAR) {
            return NONE;
        }
        giver.load = null;
        handed.hangOn(taker);
        return handed.number;
    }

    public int rest(int time) throws IllegalArgumentException, IllegalStateException {
        needWithin(time, 1, MOST_REST);
        if (time > LAST_TIME - site.time) {
            throw new IllegalStateException("there is not so much time");
        }
        site.idle(time);
        return site.force() >= FORCE_THAT_TURNS ? site.turnToWind() : 0;
    }

    // ---- what is so

    public int ofCrane(int crane, int what) throws IndexOutOfBoundsException, IllegalArgumentException {
        Crane asked = needCrane(crane);
        needWithin(what, 0, LAST_OF_CRANE);
        switch (what) {
            case 0: return asked.tower;
            case 1: return asked.mast;
            case 2: return asked.reach;
            case 3: return asked.moment;
            case 4: return asked.bearing;
            case 5: return asked.radius;
            case 6: return asked.hook;
            case 7: return asked.sway;
            case 8: return asked.work;
            case 9: return asked.load == null ? NONE : asked.load.number;
            case 10: return asked.plumb();
            case 11: return site.capacityOf(asked, asked.radius);
            case 12: return asked.arm + 1;
            case 13: return site.clashesOf(asked);
            default: return asked.nearMisses;
        }
    }

    public int ofLoad(int load, int what) throws IndexOutOfBoundsException, IllegalArgumentException {
        if (load < 0 || load >= site.loads.size()) {
            throw new IndexOutOfBoundsException("no such load");
        }
        Load asked = site.loads.get(load);
        needWithin(what, 0, LAST_OF_LOAD);
        switch (what) {
            case 0: return asked.weight;
            case 1: return asked.place();
            case 2: return asked.carrier == null ? NONE : asked.carrier.number;
            default: return plans.liftersFrom(asked.place(), asked.weight);
        }
    }

    public int ofCell(int cell, int what) throws IndexOutOfBoundsException, IllegalArgumentException {
        needCell(cell);
        needWithin(what, 0, LAST_OF_CELL);
        switch (what) {
            case 0: return site.ground.levelOf(cell);
            case 1: return site.loadsOn(cell);
            case 2: return site.jibsOver(cell);
            case 3: return site.towerOn(cell);
            default: return site.isShut(cell) ? 1 : 0;
        }
    }

    public int would(int crane, int motion) throws IndexOutOfBoundsException, IllegalArgumentException {
        Crane mover = needCrane(crane);
        needWithin(motion, SWING_ON, REST);
        return site.time >= LAST_TIME ? NONE : site.reasonAgainst(mover, motion);
    }

    public int clash(int one, int other) throws IndexOutOfBoundsException, IllegalArgumentException {
        Crane first = needCrane(one);
        Crane second = needCrane(other);
        if (one == other) {
            throw new IllegalArgumentException("a crane can not clash with itself");
        }
        return first.clashRule(second, TOUCHING);
    }

    public int way(int crane, int cell) throws IndexOutOfBoundsException {
        Crane mover = needCrane(crane);
        needCell(cell);
        plans.explore(mover);
        return plans.stepsTo(cell);
    }

    public int field(int crane) throws IndexOutOfBoundsException {
        return plans.explore(needCrane(crane));
    }

    public int swing(int crane, boolean isBack) throws IndexOutOfBoundsException {
        return plans.swings(needCrane(crane), isBack ? SWING_BACK : SWING_ON);
    }

    public int order(int nth) throws IllegalArgumentException {
        if (nth < 0) {
            throw new IllegalArgumentException("no such place");
        }
        return nth < plans.takeDown() ? plans.leaverAt(nth) : NONE;
    }

    public int many(int what) throws IllegalArgumentException {
        needWithin(what, 0, LAST_OF_MANY);
        switch (what) {
            case 0: return site.ground.cells();
            case 1: return site.time;
            case 2: return site.hour();
            case 3: return site.cranes.size();
            case 4: return site.loads.size();
            case 5: return site.zones.size();
            case 6: return site.force();
            case 7: return site.windBearing();
            case 8: return site.clashingPairs();
            case 9: return site.nearMisses();
            case 10: return site.taken;
            case 11: return site.notTaken;
            case 12: return site.hangingLoads();
            case 13: return plans.takeDown();
            default: return refused;
        }
    }

    public String drawn(int row) throws IndexOutOfBoundsException {
        if (row < 0 || row >= site.ground.high) {
            throw new IndexOutOfBoundsException("no such row");
        }
        StringBuilder signs = new StringBuilder();
        for (int column = 0; column < site.ground.wide; column++) {
            signs.append(site.signOf(site.ground.cellAt(row, column)));
        }
        return signs.toString();
    }

    public boolean isSound() {
        return site.areCranesSound() && site.areLoadsSound();
    }

    public int knock() {
        refused++;
        return refused;
    }

    public long digest() {
        long sum = DIGEST_START;
        for (int what = 0; what <= LAST_OF_MANY; what++) {
            sum = sum * DIGEST_FACTOR + many(what);
        }
        for (int cell = 0; cell < site.ground.cells(); cell++) {
            for (int what = 0; what <= LAST_OF_CELL; what++) {
                sum = sum * DIGEST_FACTOR + ofCell(cell, what);
            }
        }
        for (int crane = 0; crane < site.cranes.size(); crane++) {
            for (int what = 0; what <= LAST_OF_CRANE; what++) {
                sum = sum * DIGEST_FACTOR + ofCrane(crane, what);
            }
            for (int motion = SWING_ON; motion <= REST; motion++) {
                sum = sum * DIGEST_FACTOR + would(crane, motion);
            }
            sum = sum * DIGEST_FACTOR + field(crane);
            sum = sum * DIGEST_FACTOR + swing(crane, false);
            sum = sum * DIGEST_FACTOR + swing(crane, true);
        }
        for (int load = 0; load < site.loads.size(); load++) {
            for (int what = 0; what <= LAST_OF_LOAD; what++) {
                sum = sum * DIGEST_FACTOR + ofLoad(load, what);
            }
        }
        return sum * DIGEST_FACTOR + (isSound() ? 1 : 0);
    }

    private static void needWithin(int value, int least, int most) {
        if (value < least || value > most) {
            throw new IllegalArgumentException("out of its bounds");
        }
    }

    private void needCell(int cell) {
        if (!site.ground.hasCell(cell)) {
            throw new IndexOutOfBoundsException("no such cell");
        }
    }

    private Crane needCrane(int number) {
        if (number < 0 || number >= site.cranes.size()) {
            throw new IndexOutOfBoundsException("no such crane");
        }
        return site.cranes.get(number);
    }

    /** The CELLS of the YARD and the BUILDING on them. */
    private static final class Ground {
        private final int[] levels = new int[MOST_CELLS];
        private int wide = 0;
        private int high = 0;

        void lay(int newWide, int newHigh) {
            wide = newWide;
            high = newHigh;
            Arrays.fill(levels, 0);
        }

        int cells() {
            return wide * high;
        }

        boolean hasCell(int cell) {
            return cell >= 0 && cell < cells();
        }

        boolean hasPlace(int row, int column) {
            return row >= 0 && row < high && column >= 0 && column < wide;
        }

        int cellAt(int row, int column) {
            return hasPlace(row, column) ? row * wide + column : NONE;
        }

        int rowOf(int cell) {
            return wide > 0 ? cell / wide : 0;
        }

        int columnOf(int cell) {
            return wide > 0 ? cell % wide : 0;
        }

        int levelOf(int cell) {
            return cell >= 0 && cell < levels.length ? levels[cell] : 0;
        }

        void build(int cell, int level) {
            if (cell >= 0 && cell < levels.length) {
                levels[cell] = level;
            }
        }
    }

    /** What was told of the WIND from a TIME on. */
    private static final class Report {
        private final int time;
        private final int force;
        private final int bearing;

        Report(int time, int force, int bearing) {
            this.time = time;
            this.force = force;
            this.bearing = bearing;
        }
    }

    private static final class Zone {
        private final int top;
        private final int left;
        private final int bottom;
        private final int right;
        private final int from;
        private final int to;

        Zone(int top, int left, int bottom, int right, int from, int to) {
            this.top = top;
            this.left = left;
            this.bottom = bottom;
            this.right = right;
            this.from = from;
            this.to = to;
        }

        boolean covers(int row, int column) {
            return row >= top && row <= bottom && column >= left && column <= right;
        }

        boolean isShutAt(int hour) {
            if (from > to) {
                return hour >= from || hour <= to;
            }
            return hour >= from && hour <= to;
        }
    }

    private static final class Load {
        private final int number;
        private final int weight;
        private int cell;
        private Crane carrier = null;

        Load(int number, int cell, int weight) {
            this.number = number;
            this.cell = cell;
            this.weight = weight;
        }

        boolean liesOn(int place) {
            return carrier == null && cell == place;
        }

        int place() {
            return carrier == null ? cell : carrier.plumb();
        }

        void hangOn(Crane crane) {
            carrier = crane;
            crane.load = this;
        }

        void lieOn(int place) {
            carrier = null;
            cell = place;
        }
    }

    private static final class Crane {
        private final Ground ground;
        private int number;
        private int tower;
        private int row;
        private int column;
        private int mast;
        private int reach;
        private int moment;
        private int bearing = 0;
        /** How many CELLS the JIB has beyond the TOWER: up to REACH, or to the edge of the YARD. */
        private int arm = 0;
        private int radius = 1;
        private int hook;
        private int sway = 0;
        private int work = 0;
        private Load load = null;
        private int nearMisses = 0;

        Crane(Ground ground, int number, int tower, int mast, int reach, int moment) {
            this.ground = ground;
            this.number = number;
            this.tower = tower;
            this.row = ground.rowOf(tower);
            this.column = ground.columnOf(tower);
            this.mast = mast;
            this.reach = reach;
            this.moment = moment;
            this.hook = mast - 1;
        }

        /** Stands as the other one does. SWAY, WORK and NEAR MISSES are left out: no plan asks for them. */
        void mimic(Crane other) {
            number = other.number;
            tower = other.tower;
            row = other.row;
            column = other.column;
            mast = other.mast;
            reach = other.reach;
            moment = other.moment;
            bearing = other.bearing;
            arm = other.arm;
            radius = other.radius;
            hook = other.hook;
            load = other.load;
        }

        void face(int newBearing) {
            bearing = newBearing;
            arm = 0;
            while (arm < reach && ground.hasPlace(rowAt(arm + 1), columnAt(arm + 1))) {
                arm++;
            }
        }

        /** As it is when it is new, and as the WIND leaves it. */
        void drawIn(int newBearing) {
            face(newBearing);
            radius = 1;
            hook = mast - 1;
        }

        void move(int motion) {
            switch (motion) {
                case SWING_ON: face((bearing + 1) & LAST_BEARING); break;
                case SWING_BACK: face((bearing - 1) & LAST_BEARING); break;
                case TROLLEY_OUT: radius++; break;
                case TROLLEY_IN: radius--; break;
                case HOOK_UP: hook++; break;
                case HOOK_DOWN: hook--; break;
                default: break;
            }
        }

        void tire(int motion) {
            work = motion == REST ? 0 : work + 1;
            if (motion == SWING_ON || motion == SWING_BACK) {
                sway = Math.min(sway + (load == null ? 2 : 3), MOST_SWAY);
            } else {
                settle(1);
            }
        }

        void settle(int time) {
            sway = Math.max(sway - time, 0);
        }

        int rowAt(int distance) {
            return row + distance * ROW_STEPS[bearing & LAST_BEARING];
        }

        int columnAt(int distance) {
            return column + distance * COLUMN_STEPS[bearing & LAST_BEARING];
        }

        int plumb() {
            return ground.cellAt(rowAt(radius), columnAt(radius));
        }

        /** How far the HOOK is above the LEVEL of the PLUMB. */
        int above() {
            return hook - ground.levelOf(plumb());
        }

        boolean isCalm() {
            return sway <= CALM_SWAY;
        }

        boolean isJustAbove() {
            return isCalm() && above() == 1;
        }

        /** A RADIUS up to the arm is one up to REACH with a PLUMB in the YARD. */
        boolean isPossible() {
            return radius >= 1 && radius <= arm && hook <= mast - 1;
        }

        boolean canMeet(Crane other) {
            int rows = Math.abs(rowAt(radius) - other.rowAt(other.radius));
            int columns = Math.abs(columnAt(radius) - other.columnAt(other.radius));
            return Math.max(rows, columns) <= HAND_APART && Math.abs(hook - other.hook) <= HAND_APART
                    && isCalm() && other.isCalm();
        }

        int weight() {
            return mast + reach;
        }

        int apartFromJib(int otherRow, int otherColumn) {
            int rowStep = ROW_STEPS[bearing & LAST_BEARING];
            int columnStep = COLUMN_STEPS[bearing & LAST_BEARING];
            int down = otherRow - row;
            int right = otherColumn - column;
            // The nearest CELL is the foot on the JIB's line; on a slant each CELL goes on by one both ways.
            int foot = down * rowStep + right * columnStep;
            if (rowStep != 0 && columnStep != 0) {
                foot = foot >> 1;
            }
            foot = Math.max(0, Math.min(foot, arm));
            return Math.max(Math.abs(down - foot * rowStep), Math.abs(right - foot * columnStep));
        }

        int apartFromJibOf(Crane other) {
            int least = MOST_CELLS;
            for (int distance = 0; distance <= arm; distance++) {
                least = Math.min(least, other.apartFromJib(rowAt(distance), columnAt(distance)));
            }
            return least;
        }

        /** The first of the rules (a), (b), (c) by which both CLASH, as 1, 2, 3, if so far APART is too near; or 0. */
        int clashRule(Crane other, int tooNear) {
            Crane low = mast <= other.mast ? this : other;
            Crane high = low == this ? other : this;
            if (high.mast - low.mast < MASTS_CLEAR) {
                if (low.apartFromJibOf(high) <= tooNear) {
                    return 1;
                }
            } else if (high.hook < low.mast + HOOK_CLEAR
                    && low.apartFromJib(high.rowAt(high.radius), high.columnAt(high.radius)) <= tooNear) {
                return 2;
            }
            return sweepsOn(other, tooNear) || other.sweepsOn(this, tooNear) ? 3 : 0;
        }

        private boolean sweepsOn(Crane other, int tooNear) {
            return other.mast > mast - MASTS_CLEAR && apartFromJib(other.row, other.column) <= tooNear;
        }

        boolean isWithinBounds() {
            return radius >= 1 && radius <= reach && hook >= 1 && hook <= mast - 1
                    && sway >= 0 && sway <= MOST_SWAY && plumb() != NONE;
        }
    }

    /** All that is on the YARD now, and the rules by which STEPS are taken there. */
    private static final class Site {
        private final Ground ground;
        private final ArrayList<Report> reports = new ArrayList<>();
        private final ArrayList<Zone> zones = new ArrayList<>();
        private final ArrayList<Crane> cranes = new ArrayList<>();
        private final ArrayList<Load> loads = new ArrayList<>();
        private final Report calm = new Report(0, 0, 0);
        /** Stands in for a CRANE where it is asked what would be. */
        private final Crane trial;
        private int time = 0;
        private int taken = 0;
        private int notTaken = 0;

        Site(Ground ground) {
            this.ground = ground;
            this.trial = new Crane(ground, NONE, 0, LEAST_MAST, LEAST_REACH, LEAST_MOMENT);
        }

        void lay(int wide, int high) {
            ground.lay(wide, high);
            reports.clear();
            zones.clear();
            cranes.clear();
            loads.clear();
            time = 0;
            taken = 0;
            notTaken = 0;
        }

        int hour() {
            return time / TIME_OF_AN_HOUR % HOURS;
        }

        Report windNow() {
            Report latest = calm;
            for (int k = 0; k < reports.size(); k++) {
                Report report = reports.get(k);
                if (report.time <= time && report.time >= latest.time) {
                    latest = report;
                }
            }
            return latest;
        }

        int force() {
            return windNow().force;
        }

        int windBearing() {
            return windNow().bearing;
        }

        boolean isShut(int cell) {
            int row = ground.rowOf(cell);
            int column = ground.columnOf(cell);
            for (int k = 0; k < zones.size(); k++) {
                Zone zone = zones.get(k);
                if (zone.covers(row, column) && zone.isShutAt(hour())) {
                    return true;
                }
            }
            return false;
        }

        int towerOn(int cell) {
            for (int k = 0; k < cranes.size(); k++) {
                if (cranes.get(k).tower == cell) {
                    return k;
                }
            }
            return NONE;
        }

        int loadsOn(int cell) {
            int lying = 0;
            for (int k = 0; k < loads.size(); k++) {
                if (loads.get(k).liesOn(cell)) {
                    lying++;
                }
            }
            return lying;
        }

        Load firstLoadOn(int cell) {
            for (int k = 0; k < loads.size(); k++) {
                Load load = loads.get(k);
                if (load.liesOn(cell)) {
                    return load;
                }
            }
            return null;
        }

        int hangingLoads() {
            int hanging = 0;
            for (int k = 0; k < loads.size(); k++) {
                if (loads.get(k).carrier != null) {
                    hanging++;
                }
            }
            return hanging;
        }

        int jibsOver(int cell) {
            int row = ground.rowOf(cell);
            int column = ground.columnOf(cell);
            int over = 0;
            for (int k = 0; k < cranes.size(); k++) {
                if (cranes.get(k).apartFromJib(row, column) == 0) {
                    over |= 1 << k;
                }
            }
            return over;
        }

        boolean isPlumbOn(int cell) {
            for (int k = 0; k < cranes.size(); k++) {
                if (cranes.get(k).plumb() == cell) {
                    return true;
                }
            }
            return false;
        }

        boolean canBuild(int cell, int level) {
            if (towerOn(cell) != NONE || loadsOn(cell) > 0) {
                return false;
            }
            for (int k = 0; k < cranes.size(); k++) {
                Crane crane = cranes.get(k);
                int clear = crane.load == null ? 1 : HOOK_CLEAR;
                if (crane.plumb() == cell && crane.hook - level < clear) {
                    return false;
                }
            }
            return true;
        }

        boolean canFound(int cell) {
            return towerOn(cell) == NONE && loadsOn(cell) == 0 && ground.levelOf(cell) == 0;
        }

        int capacityOf(Crane crane, int radius) {
            if (radius < 1) {
                return 0;
            }
            int lost = 2 * Math.max(windNow().force - FORCE_THAT_WEAKENS, 0);
            return Math.max(crane.moment / radius - lost, 0);
        }

        int clashesOf(Crane crane) {
            int clashing = 0;
            for (int k = 0; k < cranes.size(); k++) {
                if (k != crane.number && crane.clashRule(cranes.get(k), TOUCHING) != 0) {
                    clashing |= 1 << k;
                }
            }
            return clashing;
        }

        int clashingPairs() {
            int pairs = 0;
            for (int k = 0; k < cranes.size(); k++) {
                pairs += Integer.bitCount(clashesOf(cranes.get(k)));
            }
            return pairs / 2;
        }

        int nearMisses() {
            int sum = 0;
            for (int k = 0; k < cranes.size(); k++) {
                sum += cranes.get(k).nearMisses;
            }
            return sum;
        }

        /** The first of the reasons 1, 4, 5, 6 and 7 against a CRANE as it stands; it may CLASH with those allowed. */
        int hindrance(Crane crane, boolean isAcross, int allowed) {
            if (!crane.isPossible()) {
                return 1;
            }
            if (crane.load != null && crane.load.weight > capacityOf(crane, crane.radius)) {
                return 4;
            }
            int plumb = crane.plumb();
            if (crane.load != null && isShut(plumb)) {
                return 5;
            }
            int clear = crane.load != null && isAcross ? HOOK_CLEAR : 1;
            if (crane.hook - ground.levelOf(plumb) < clear) {
                return 6;
            }
            for (int k = 0; k < cranes.size(); k++) {
                boolean isOther = k != crane.number && (allowed >> k & 1) == 0;
                if (isOther && crane.clashRule(cranes.get(k), TOUCHING) != 0) {
                    return 7;
                }
            }
            return 0;
        }

        int reasonAgainst(Crane crane, int motion) {
            if (motion == REST) {
                return 0;
            }
            trial.mimic(crane);
            trial.move(motion);
            int reason = hindrance(trial, motion <= TROLLEY_IN, clashesOf(crane));
            if (reason == 1) {
                return 1;
            }
            if (force() > FORCE_THAT_STOPS) {
                return 2;
            }
            return crane.work >= MOST_WORK ? 3 : reason;
        }

        void take(Crane crane, int motion) {
            crane.move(motion);
            crane.tire(motion);
            time++;
            taken++;
            if (motion != REST) {
                crane.nearMisses += missesNow(crane);
            }
        }

        int missesNow(Crane crane) {
            int misses = 0;
            for (int k = 0; k < cranes.size(); k++) {
                Crane other = cranes.get(k);
                if (other != crane && crane.clashRule(other, TOUCHING) == 0
                        && crane.clashRule(other, NEARLY_TOUCHING) != 0) {
                    misses++;
                }
            }
            return misses;
        }

        void idle(int howLong) {
            time += howLong;
            for (int k = 0; k < cranes.size(); k++) {
                cranes.get(k).settle(howLong);
            }
        }

        int turnToWind() {
            int bearing = windBearing();
            int turned = 0;
            for (int k = 0; k < cranes.size(); k++) {
                Crane crane = cranes.get(k);
                trial.mimic(crane);
                trial.drawIn(bearing);
                if (crane.load == null && hindrance(trial, false, ALL_CRANES) == 0) {
                    turned += crane.bearing == bearing ? 0 : 1;
                    crane.drawIn(bearing);
                }
            }
            return turned;
        }

        char signOf(int cell) {
            int tower = towerOn(cell);
            if (tower != NONE) {
                return (char) ('0' + tower);
            }
            if (isPlumbOn(cell)) {
                return 'v';
            }
            if (jibsOver(cell) != 0) {
                return '=';
            }
            if (ground.levelOf(cell) > 0) {
                return '#';
            }
            return loadsOn(cell) > 0 ? '*' : '.';
        }

        boolean areCranesSound() {
            for (int k = 0; k < cranes.size(); k++) {
                Crane crane = cranes.get(k);
                boolean isFounded = towerOn(crane.tower) == k && ground.levelOf(crane.tower) == 0;
                boolean isItsLoad = crane.load == null || crane.load.carrier == crane;
                if (!isFounded || !isItsLoad || !crane.isWithinBounds()) {
                    return false;
                }
            }
            return true;
        }

        boolean areLoadsSound() {
            for (int k = 0; k < loads.size(); k++) {
                Load load = loads.get(k);
                if (load.carrier != null && load.carrier.load != load) {
                    return false;
                }
            }
            return true;
        }
    }

    /** What could be done from now on: WAYS, swings, who could LIFT what, and the ORDER. */
    private static final class Plans {
        private static final int UNKNOWN = -1;
        private static final int BARRED = -2;
        private static final int POSES_OF_A_BEARING = MOST_REACH + 1;

        private final Site site;
        private final Crane trial;
        /** A CELL for each BEARING and RADIUS: so the steps of a pose can be kept by its PLUMB. */
        private final int[] steps = new int[MOST_CELLS];
        private final int[] poses = new int[(LAST_BEARING + 1) * MOST_REACH];
        /** For each CRANE the set of those that can take it down. */
        private final int[] takers = new int[MOST_CRANES];
        private final int[] leaving = new int[MOST_CRANES];

        Plans(Site site) {
            this.site = site;
            this.trial = site.trial;
        }

        /** Finds the WAYS to all CELLS; returns how many have one. */
        int explore(Crane crane) {
            Arrays.fill(steps, UNKNOWN);
            int start = crane.plumb();
            if (start < 0 || start >= steps.length) {
                return 0;
            }
            int clashing = site.clashesOf(crane);
            trial.mimic(crane);
            steps[start] = 0;
            poses[0] = poseOf(crane);
            int found = 1;
            for (int at = 0; at < found && at < poses.length; at++) {
                for (int motion = SWING_ON; motion <= TROLLEY_IN; motion++) {
                    assume(poses[at]);
                    int here = trial.plumb();
                    trial.move(motion);
                    int next = trial.plumb();
                    if (here < 0 || here >= steps.length || next < 0 || next >= steps.length
                            || steps[next] != UNKNOWN) {
                        continue;
                    }
                    if (found >= poses.length || site.hindrance(trial, true, clashing) != 0) {
                        steps[next] = BARRED;
                        continue;
                    }
                    steps[next] = steps[here] + 1;
                    poses[found] = poseOf(trial);
                    found++;
                }
            }
            return found;
        }

        private static int poseOf(Crane crane) {
            return crane.bearing * POSES_OF_A_BEARING + crane.radius;
        }

        private void assume(int pose) {
            trial.face(pose / POSES_OF_A_BEARING);
            trial.radius = pose % POSES_OF_A_BEARING;
        }

        int stepsTo(int cell) {
            boolean isFound = cell >= 0 && cell < steps.length && steps[cell] >= 0;
            return isFound ? steps[cell] : NONE;
        }

        int swings(Crane crane, int motion) {
            int clashing = site.clashesOf(crane);
            trial.mimic(crane);
            for (int count = 0; count < LAST_BEARING; count++) {
                trial.move(motion);
                if (site.hindrance(trial, true, clashing) != 0) {
                    return count;
                }
            }
            return LAST_BEARING;
        }

        int liftersFrom(int cell, int weight) {
            int lifters = 0;
            for (int k = 0; k < site.cranes.size(); k++) {
                if (canLift(site.cranes.get(k), cell, weight)) {
                    lifters |= 1 << k;
                }
            }
            return lifters;
        }

        private boolean canLift(Crane crane, int cell, int weight) {
            int rows = Math.abs(site.ground.rowOf(cell) - crane.row);
            int columns = Math.abs(site.ground.columnOf(cell) - crane.column);
            boolean isOnALine = rows == 0 || columns == 0 || rows == columns;
            int radius = Math.max(rows, columns);
            return isOnALine && radius >= 1 && radius <= crane.reach && site.capacityOf(crane, radius) >= weight;
        }

        /** Finds the ORDER; returns how many CRANES it takes down. */
        int takeDown() {
            int size = Math.min(site.cranes.size(), takers.length);
            for (int k = 0; k < size; k++) {
                takers[k] = takersOf(site.cranes.get(k));
            }
            int standing = (1 << size) - 1;
            int gone = 0;
            int next = nextToGo(standing);
            while (next != NONE && gone < leaving.length) {
                leaving[gone] = next;
                gone++;
                standing -= 1 << next;
                next = nextToGo(standing);
            }
            return gone;
        }

        int leaverAt(int nth) {
            return nth >= 0 && nth < leaving.length ? leaving[nth] : NONE;
        }

        private int nextToGo(int standing) {
            for (int k = 0; k < takers.length; k++) {
                if ((standing >> k & 1) == 1 && (takers[k] & standing) != 0) {
                    return k;
                }
            }
            return NONE;
        }

        private int takersOf(Crane crane) {
            int able = crane.mast <= MAST_THAT_FOLDS_ITSELF ? 1 << crane.number : 0;
            for (int k = 0; k < site.cranes.size(); k++) {
                Crane other = site.cranes.get(k);
                if (other != crane && other.mast >= crane.mast && canLift(other, crane.tower, crane.weight())) {
                    able |= 1 << k;
                }
            }
            return able;
        }
    }
}
