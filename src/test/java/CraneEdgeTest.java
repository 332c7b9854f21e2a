/** Promises 7 to 12: each sentence there that names a bound has a test of its own, in the document's order. */
final class CraneEdgeTest extends Scenes {
    private static final int[] WILD = {-1, Integer.MIN_VALUE, Integer.MAX_VALUE};

    public static void main(String[] args) {
        cranesAndSteps();
        hooks();
        restsAndTurns();
        end("CraneEdgeTest");
    }

    // ---- promises 7 and 8

    private static void cranesAndSteps() {
        promise7NotOnATowerALoadOrALevel();
        promise7UnderALoadThatHangs();
        promise7ItsHookAboveTheLevelOfItsPlumb();
        promise7WhateverIsSoOfAnotherOne();
        promise7TheFirstExceptionOfSeveral();
        promise8OfNoCrane();
        promise8OfNoMotion();
        promise8AtTheLastTime();
        promise8NotTakenChangesOnlyTheCount();
        promise8TakenChangesOnlyThatCrane();
    }

    private static void promise7NotOnATowerALoadOrALevel() {
        Slewyard site = tenByTen();
        is(0, site.crane(11, 4, 2, 60, 2));
        state(() -> site.crane(11, 30, 2, 60, 4));
        is(0, site.load(55, 1));
        state(() -> site.crane(55, 10, 2, 60, 2));
        site.level(57, 1);
        state(() -> site.crane(57, 10, 2, 60, 2));
        site.level(57, 0);
        is(1, site.crane(57, 10, 2, 60, 2));
    }

    private static void promise7UnderALoadThatHangs() {
        Slewyard site = tenByTen();
        is(0, site.crane(55, 20, 3, 60, 2));
        is(0, site.load(57, 5));
        state(() -> site.crane(57, 3, 2, 60, 2));
        steps(site, 0, 2, 1);
        steps(site, 0, 5, 18);
        is(0, site.hang(0));
        steps(site, 0, 4, 9);
        is("10 0 57", row(site.ofCrane(0, 6), site.ofCell(57, 1), site.ofLoad(0, 1)));
        is(1, site.crane(57, 3, 2, 60, 2));
        is(true, site.isSound());
    }

    private static void promise7ItsHookAboveTheLevelOfItsPlumb() {
        for (int mast = 3; mast <= 12; mast++) {
            Slewyard site = tenByTen();
            site.level(56, 7);
            int height = mast;
            if (mast >= 9) {
                is(0, site.crane(55, mast, 2, 60, 2));
            } else {
                state(() -> site.crane(55, height, 2, 60, 2));
                is(0, site.crane(55, mast, 2, 60, 3));
            }
        }
    }

    /** A ZONE, a CAPACITY and two above a LEVEL are asked of a LOAD that hangs; a new CRANE has none. */
    private static void promise7WhateverIsSoOfAnotherOne() {
        Slewyard site = lifted(60, 60);
        site.zone(0, 10, 10, 0, 23);
        site.wind(0, 9, 0);
        site.level(12, 8);
        is("2 2 2 1 2 2 0", wouldAll(site, 0));
        state(() -> site.crane(57, 5, 2, 60, 2));
        is("0 1", row(site.swing(0, false), site.field(0)));
        is(1, site.crane(11, 10, 2, 5, 2));
        is("0 -1", row(site.ofCrane(1, 11), site.ofCrane(1, 9)));
    }

    private static void promise7TheFirstExceptionOfSeveral() {
        Slewyard site = tenByTen();
        site.crane(0, 10, 2, 60, 4);
        site.crane(9, 10, 2, 60, 4);
        site.crane(90, 10, 2, 60, 0);
        site.crane(99, 10, 2, 60, 0);
        long before = site.digest();
        for (int cell : new int[] {-1, 100, Integer.MIN_VALUE, Integer.MAX_VALUE}) {
            index(() -> site.crane(cell, 2, 1, 4, 8));
            index(() -> site.crane(cell, 10, 2, 60, 0));
        }
        for (int cell : new int[] {0, 44}) {
            argument(() -> site.crane(cell, 2, 2, 60, 0));
            argument(() -> site.crane(cell, 31, 2, 60, 0));
            argument(() -> site.crane(cell, 10, 1, 60, 0));
            argument(() -> site.crane(cell, 10, 10, 60, 0));
            argument(() -> site.crane(cell, 10, 2, 4, 0));
            argument(() -> site.crane(cell, 10, 2, 401, 0));
            argument(() -> site.crane(cell, 10, 2, 60, -1));
            argument(() -> site.crane(cell, 10, 2, 60, 8));
            state(() -> site.crane(cell, 10, 2, 60, 0));
        }
        is(before, site.digest());
    }

    private static void promise8OfNoCrane() {
        Slewyard site = tenByTen();
        index(() -> site.step(0, 0));
        site.crane(55, 10, 2, 60, 2);
        index(() -> site.step(1, 0));
        pass(site, 600);
        for (int crane : WILD) {
            index(() -> site.step(crane, 6));
            index(() -> site.step(crane, 7));
        }
        index(() -> site.step(1, 6));
    }

    private static void promise8OfNoMotion() {
        Slewyard site = tenByTen();
        site.crane(55, 10, 2, 60, 2);
        long before = site.digest();
        for (int motion : WILD) {
            argument(() -> site.step(0, motion));
        }
        argument(() -> site.step(0, 7));
        is(before, site.digest());
        pass(site, 600);
        argument(() -> site.step(0, 7));
        argument(() -> site.step(0, -1));
    }

    private static void promise8AtTheLastTime() {
        Slewyard site = tenByTen();
        site.crane(55, 10, 2, 60, 2);
        pass(site, 599);
        is(1, site.step(0, 3));
        is("599 0", row(site.many(1), site.step(0, 6)));
        long before = site.digest();
        for (int motion = 0; motion <= 6; motion++) {
            int tried = motion;
            state(() -> site.step(0, tried));
        }
        is(before, site.digest());
        is("600 1 1", row(site.many(1), site.many(10), site.many(11)));
    }

    private static void promise8NotTakenChangesOnlyTheCount() {
        Slewyard site = lifted(60, 30);
        String before = ofCrane(site, 0, 0, 14);
        for (int k = 1; k <= 5; k++) {
            is("1 " + k, row(site.step(0, 3), site.many(11)));
        }
        site.zone(0, 10, 10, 0, 23);
        is("5 6", row(site.step(0, 0), site.many(11)));
        is(before, ofCrane(site, 0, 0, 14));
        is("5 5", row(site.many(1), site.many(10)));
    }

    private static void promise8TakenChangesOnlyThatCrane() {
        Slewyard site = tenByTen();
        site.crane(11, 10, 2, 60, 2);
        site.crane(77, 10, 2, 60, 2);
        steps(site, 1, 0, 2);
        String other = ofCrane(site, 1, 0, 14);
        steps(site, 0, 0, 1);
        steps(site, 0, 6, 3);
        is(other, ofCrane(site, 1, 0, 14));
        is("4 2", row(site.ofCrane(1, 7), site.ofCrane(1, 8)));
    }

    // ---- promises 9 to 11

    private static void hooks() {
        promise9NoneIsThere();
        promise9ItHasOne();
        promise9JustOneAbove();
        promise9SwayUpTo1();
        promise9WeightUpToCapacity();
        promise9TheSmallestNumber();
        promise10ItHasNone();
        promise10JustOneAbove();
        promise10SwayUpTo1();
        promise10NotOnATower();
        promise11TheFirstHasNoneOrTheSecondHasOne();
        promise11Apart();
        promise11LessApartThan2();
        promise11ByRadiusNotByReach();
        promise11HooksDiffer();
        promise11SwayUpTo1();
        promise11WeightUpToCapacity();
        promise11TwoAboveTheLevel();
        promise11TheFirstExceptionOfSeveral();
        hooksAskNeitherTimeNorWorkNorZones();
    }

    /** hang() answers NONE and changes nothing. */
    private static void cannotHang(Slewyard site) {
        long before = site.digest();
        is(-1, site.hang(0));
        is(before, site.digest());
    }

    private static void cannotSet(Slewyard site) {
        long before = site.digest();
        is(-1, site.set(0));
        is(before, site.digest());
    }

    private static void cannotHand(Slewyard site, int from, int to) {
        long before = site.digest();
        is(-1, site.hand(from, to));
        is(before, site.digest());
    }

    /** A CRANE whose HOOK is 1 above the ground at 56; a LOAD lies there. */
    private static Slewyard lowered(int weight) {
        Slewyard site = tenByTen();
        is(0, site.crane(55, 3, 3, 30, 2));
        is(0, site.load(56, weight));
        steps(site, 0, 5, 1);
        return site;
    }

    private static void promise9NoneIsThere() {
        Slewyard site = tenByTen();
        site.crane(55, 3, 3, 30, 2);
        site.load(55 + 2, 1);
        site.load(55 - 1, 1);
        steps(site, 0, 5, 1);
        cannotHang(site);
        site.load(56, 1);
        is(2, site.hang(0));
    }

    private static void promise9ItHasOne() {
        Slewyard site = lowered(5);
        site.load(56, 1);
        is(0, site.hang(0));
        cannotHang(site);
        is("0 -1", row(site.ofLoad(0, 2), site.ofLoad(1, 2)));
    }

    private static void promise9JustOneAbove() {
        for (int level = 0; level <= 3; level++) {
            Slewyard site = tenByTen();
            site.crane(55, 7, 3, 60, 2);
            site.level(56, level);
            site.load(56, 5);
            for (int hook = 6; hook > level + 1; hook--) {
                is(hook, site.ofCrane(0, 6));
                cannotHang(site);
                steps(site, 0, 5, 1);
            }
            is(6, site.step(0, 5));
            is(0, site.hang(0));
        }
    }

    private static void promise9SwayUpTo1() {
        Slewyard site = lowered(5);
        steps(site, 0, 0, 1);
        steps(site, 0, 1, 1);
        for (int sway = 4; sway >= 2; sway--) {
            is(sway, site.ofCrane(0, 7));
            cannotHang(site);
            site.rest(1);
        }
        is("1 0", row(site.ofCrane(0, 7), site.hang(0)));
    }

    private static void promise9WeightUpToCapacity() {
        for (int weight = 28; weight <= 32; weight++) {
            Slewyard site = lowered(weight);
            if (weight <= 30) {
                is(0, site.hang(0));
            } else {
                cannotHang(site);
            }
            Slewyard windy = lowered(weight);
            windy.wind(0, 5, 0);
            is(weight <= 28 ? 0 : -1, windy.hang(0));
        }
    }

    private static void promise9TheSmallestNumber() {
        Slewyard site = tenByTen();
        site.crane(55, 3, 3, 30, 2);
        site.load(0, 1);
        site.load(56, 3);
        site.load(56, 2);
        steps(site, 0, 5, 1);
        is(1, site.hang(0));
        is(1, site.set(0));
        is("2 1", row(site.ofCell(56, 1), site.hang(0)));
        Slewyard heavy = lowered(31);
        heavy.load(56, 1);
        cannotHang(heavy);
    }

    private static void promise10ItHasNone() {
        Slewyard site = lowered(5);
        cannotSet(site);
        is("0 0", row(site.hang(0), site.set(0)));
        cannotSet(site);
    }

    private static void promise10JustOneAbove() {
        for (int level = 0; level <= 2; level++) {
            Slewyard site = tenByTen();
            site.crane(55, 7, 3, 60, 2);
            site.load(56, 5);
            steps(site, 0, 5, 5);
            is(0, site.hang(0));
            steps(site, 0, 4, 5);
            site.level(56, level);
            for (int hook = 6; hook > level + 1; hook--) {
                cannotSet(site);
                steps(site, 0, 5, 1);
            }
            is("6 0", row(site.step(0, 5), site.set(0)));
            is("1 56 -1 -1", row(site.ofCell(56, 1), site.ofLoad(0, 1), site.ofLoad(0, 2), site.ofCrane(0, 9)));
        }
    }

    private static void promise10SwayUpTo1() {
        Slewyard site = lifted(60, 5);
        steps(site, 0, 0, 1);
        steps(site, 0, 1, 1);
        is(6, site.ofCrane(0, 7));
        steps(site, 0, 5, 2);
        for (int sway = 4; sway >= 2; sway--) {
            is(sway, site.ofCrane(0, 7));
            cannotSet(site);
            site.rest(1);
        }
        is("1 0", row(site.ofCrane(0, 7), site.set(0)));
    }

    /** Only where CRANES CLASH already a HOOK can come as low as 1 over a TOWER: the WIND brings that about. */
    private static void promise10NotOnATower() {
        Slewyard site = tenByTen();
        is(0, site.crane(44, 5, 3, 60, 0));
        is(1, site.crane(47, 5, 2, 60, 0));
        is(0, site.load(45, 5));
        site.wind(1, 9, 2);
        is(2, site.rest(1));
        site.wind(1, 0, 0);
        steps(site, 0, 5, 3);
        is(0, site.hang(0));
        steps(site, 0, 4, 1);
        steps(site, 0, 2, 2);
        steps(site, 0, 5, 1);
        is("1 47 1 0 1", row(site.ofCell(47, 3), site.ofCrane(0, 10), site.ofCrane(0, 6), site.ofCrane(0, 7),
            site.clash(0, 1)));
        cannotSet(site);
        steps(site, 0, 4, 1);
        steps(site, 0, 3, 1);
        steps(site, 0, 5, 1);
        is("0 46", row(site.set(0), site.ofLoad(0, 1)));
    }

    private static void promise11TheFirstHasNoneOrTheSecondHasOne() {
        Slewyard site = meeting(60);
        cannotHand(site, 1, 0);
        site.load(45, 1);
        steps(site, 1, 5, 1);
        is(1, site.hang(1));
        steps(site, 1, 4, 1);
        cannotHand(site, 0, 1);
        cannotHand(site, 1, 0);
        steps(site, 1, 5, 1);
        is(1, site.set(1));
        steps(site, 1, 4, 1);
        is("0 -1 0", row(site.hand(0, 1), site.ofCrane(0, 9), site.ofCrane(1, 9)));
    }

    /** Two CRANES that look at one another; the PLUMB of the second one is so far from that of the first one. */
    private static Slewyard facing(int first, int second, int bearing, int apart) {
        Slewyard site = tenByTen();
        is(0, site.crane(first, 6, 3, 400, bearing));
        is(1, site.crane(second, 6, 3, 400, (bearing + 4) % 8));
        is(0, site.load(site.ofCrane(0, 10), 20));
        steps(site, 0, 5, 4);
        is(0, site.hang(0));
        steps(site, 0, 4, 1);
        steps(site, 0, 2, 2);
        steps(site, 1, 5, 3);
        steps(site, 1, 2, 4 - apart);
        return site;
    }

    private static void promise11Apart() {
        int[][] pairs = {{40, 48, 2}, {48, 40, 6}, {4, 84, 4}, {84, 4, 0}, {0, 88, 3}, {88, 0, 7}, {8, 80, 5}, {80, 8, 1}};
        for (int[] pair : pairs) {
            for (int apart = 2; apart <= 4; apart++) {
                Slewyard site = facing(pair[0], pair[1], pair[2], apart);
                if (apart == 2) {
                    is("0 0 0", row(site.hand(0, 1), site.hand(1, 0), site.hand(0, 1)));
                } else {
                    cannotHand(site, 0, 1);
                }
            }
        }
    }

    /** A JIB that the WIND lays on that of the one with the LOAD: PLUMBS come to 1 APART and to the same CELL. */
    private static void promise11LessApartThan2() {
        Slewyard site = tenByTen();
        is(0, site.crane(40, 6, 2, 60, 2));
        is(1, site.crane(44, 6, 2, 60, 2));
        is(0, site.load(41, 20));
        steps(site, 0, 5, 4);
        is(0, site.hang(0));
        steps(site, 0, 4, 1);
        site.wind(7, 9, 6);
        is(1, site.rest(2));
        site.wind(7, 0, 0);
        steps(site, 0, 2, 1);
        steps(site, 1, 5, 3);
        is("42 43 1", row(site.ofCrane(0, 10), site.ofCrane(1, 10), site.clash(0, 1)));
        is("0 0", row(site.hand(0, 1), site.hand(1, 0)));
        steps(site, 1, 2, 1);
        is("42 42", row(site.ofCrane(0, 10), site.ofCrane(1, 10)));
        is("0 0", row(site.hand(0, 1), site.hand(1, 0)));
    }

    /** The JIB of the second one passes by 2 APART from that of the first one; only its RADIUS brings them together. */
    private static void promise11ByRadiusNotByReach() {
        int[][] pairs = {{40, 2, 95, 0}, {4, 4, 59, 6}};
        for (int[] pair : pairs) {
            for (int radius = 1; radius <= 8; radius++) {
                Slewyard site = tenByTen();
                is(0, site.crane(pair[0], 6, 3, 100, pair[1]));
                is(1, site.crane(pair[2], 6, 8, 100, pair[3]));
                is(0, site.load(site.ofCrane(0, 10), 20));
                steps(site, 0, 5, 4);
                is(0, site.hang(0));
                steps(site, 0, 4, 1);
                steps(site, 0, 2, 2);
                steps(site, 1, 5, 3);
                steps(site, 1, 2, radius - 1);
                if (radius >= 3 && radius <= 5) {
                    is("0 0", row(site.hand(0, 1), site.hand(1, 0)));
                } else {
                    cannotHand(site, 0, 1);
                }
            }
        }
    }

    private static void promise11HooksDiffer() {
        for (int up = 0; up <= 3; up++) {
            Slewyard site = meeting(60);
            steps(site, 1, 4, up);
            is(row(2, 2 + up), row(site.ofCrane(0, 6), site.ofCrane(1, 6)));
            is(up <= 2 ? 0 : -1, site.hand(0, 1));
            Slewyard lower = meeting(60);
            steps(lower, 0, 4, up);
            is(row(2 + up, 2), row(lower.ofCrane(0, 6), lower.ofCrane(1, 6)));
            is(up <= 2 ? 0 : -1, lower.hand(0, 1));
        }
    }

    private static void promise11SwayUpTo1() {
        for (int crane = 0; crane <= 1; crane++) {
            Slewyard site = meeting(60);
            steps(site, crane, 0, 1);
            steps(site, crane, 1, 1);
            int sway = site.ofCrane(crane, 7);
            is(crane == 0 ? 6 : 4, sway);
            for (; sway >= 2; sway--) {
                cannotHand(site, 0, 1);
                steps(site, crane, 6, 1);
            }
            is("1 0", row(site.ofCrane(crane, 7), site.hand(0, 1)));
        }
    }

    private static void promise11WeightUpToCapacity() {
        for (int moment = 58; moment <= 62; moment++) {
            is(moment >= 60 ? 0 : -1, meeting(moment).hand(0, 1));
            Slewyard windy = meeting(moment + 6);
            windy.wind(0, 5, 0);
            is(moment >= 60 ? 0 : -1, windy.hand(0, 1));
        }
        cannotHand(meeting(59), 0, 1);
    }

    private static void promise11TwoAboveTheLevel() {
        Slewyard site = meeting(60);
        is(0, site.level(45, 1));
        cannotHand(site, 0, 1);
        is(1, site.level(45, 0));
        is(0, site.hand(0, 1));
        Slewyard low = meeting(60);
        steps(low, 1, 5, 1);
        cannotHand(low, 0, 1);
        Slewyard giver = meeting(60);
        steps(giver, 0, 5, 1);
        is("1 0", row(giver.ofCrane(0, 6), giver.hand(0, 1)));
    }

    private static void promise11TheFirstExceptionOfSeveral() {
        Slewyard site = meeting(60);
        long before = site.digest();
        for (int wrong : new int[] {2, -1, Integer.MIN_VALUE, Integer.MAX_VALUE}) {
            index(() -> site.hand(wrong, wrong));
            index(() -> site.hand(wrong, 0));
            index(() -> site.hand(0, wrong));
            index(() -> site.hang(wrong));
            index(() -> site.set(wrong));
        }
        argument(() -> site.hand(0, 0));
        argument(() -> site.hand(1, 1));
        is(before, site.digest());
    }

    /** hang(), set() and hand() are no STEPS: nothing of section 3 is asked for them. */
    private static void hooksAskNeitherTimeNorWorkNorZones() {
        Slewyard site = meeting(400);
        for (int crane = 0; crane <= 1; crane++) {
            while (site.ofCrane(crane, 8) < 30) {
                steps(site, crane, site.ofCrane(crane, 6) == 2 ? 4 : 5, 1);
            }
            is(3, site.would(crane, 3));
        }
        site.zone(0, 10, 10, 0, 23);
        pass(site, 600 - site.many(1));
        site.wind(0, 9, 0);
        is("0 0 600", row(site.hand(0, 1), site.hand(1, 0), site.many(1)));
        Slewyard late = lowered(5);
        pass(late, 599);
        late.zone(0, 10, 10, 0, 23);
        late.wind(0, 9, 2);
        is("0 0 0 600", row(late.hang(0), late.set(0), late.hang(0), late.many(1)));
        is("0 0", row(late.ofCrane(0, 9), late.ofCell(56, 1)));
    }

    // ---- promise 12

    private static void restsAndTurns() {
        promise12TimeIs1To100();
        promise12TimeIs600AtMost();
        promise12WorkStaysAndSwayIs0AtLeast();
        promise12TurnsFrom8On();
        promise12TheForceBehindIt();
        promise12NotWithALoad();
        promise12NotOutOfTheYard();
        promise12NotIntoTheBuilding();
        promise12AlsoOneThatHasItsBearing();
        promise12OneBehindTheOther();
    }

    private static void promise12TimeIs1To100() {
        for (int time = -2; time <= 103; time++) {
            int tried = time;
            Slewyard site = tenByTen();
            if (time >= 1 && time <= 100) {
                is(row(0, time), row(site.rest(time), site.many(1)));
            } else {
                argument(() -> site.rest(tried));
                is(0, site.many(1));
            }
        }
        Slewyard site = tenByTen();
        for (int time : WILD) {
            argument(() -> site.rest(time));
        }
    }

    private static void promise12TimeIs600AtMost() {
        for (int time = 1; time <= 100; time++) {
            int tried = time;
            Slewyard site = tenByTen();
            pass(site, 550);
            if (time <= 50) {
                is(row(0, 550 + time), row(site.rest(time), site.many(1)));
            } else {
                state(() -> site.rest(tried));
                is(550, site.many(1));
            }
        }
        Slewyard last = tenByTen();
        pass(last, 600);
        argument(() -> last.rest(0));
        argument(() -> last.rest(101));
        state(() -> last.rest(1));
        state(() -> last.rest(100));
    }

    private static void promise12WorkStaysAndSwayIs0AtLeast() {
        for (int time = 1; time <= 6; time++) {
            Slewyard site = tenByTen();
            site.crane(11, 10, 2, 60, 2);
            site.crane(77, 10, 2, 60, 2);
            steps(site, 0, 0, 2);
            steps(site, 1, 0, 1);
            is(0, site.rest(time));
            is(row(Math.max(0, 4 - time), 2), ofCrane(site, 0, 7, 8));
            is(row(Math.max(0, 2 - time), 1), ofCrane(site, 1, 7, 8));
        }
    }

    private static void promise12TurnsFrom8On() {
        for (int force = 0; force <= 9; force++) {
            for (int bearing = 0; bearing < 8; bearing++) {
                Slewyard site = tenByTen();
                site.crane(55, 10, 4, 60, 2);
                steps(site, 0, 2, 2);
                steps(site, 0, 5, 2);
                site.wind(0, force, bearing);
                boolean isTurned = force >= 8;
                is(isTurned && bearing != 2 ? 1 : 0, site.rest(1));
                is(isTurned ? row(bearing, 1, 9, 0, 4) : row(2, 3, 7, 0, 4), ofCrane(site, 0, 4, 8));
            }
        }
    }

    private static void promise12TheForceBehindIt() {
        for (int time = 1; time <= 12; time++) {
            Slewyard site = tenByTen();
            site.crane(55, 10, 4, 60, 2);
            site.wind(0, 9, 0);
            site.wind(1, 0, 0);
            site.wind(5, 8, 4);
            site.wind(9, 7, 6);
            boolean isTurned = time >= 5 && time <= 8;
            is(isTurned ? 1 : 0, site.rest(time));
            is(isTurned ? 4 : 2, site.ofCrane(0, 4));
        }
    }

    private static void promise12NotWithALoad() {
        Slewyard site = lifted(60, 5);
        site.crane(99, 5, 2, 60, 0);
        String before = ofCrane(site, 0, 0, 6);
        site.wind(0, 9, 6);
        is("1 6 1", row(site.rest(1), site.ofCrane(1, 4), site.ofCrane(0, 5)));
        is(before, ofCrane(site, 0, 0, 6));
        site.wind(0, 9, 2);
        is(0, site.rest(1));
        is(before, ofCrane(site, 0, 0, 6));
    }

    private static void promise12NotOutOfTheYard() {
        for (int bearing = 0; bearing < 8; bearing++) {
            Slewyard site = tenByTen();
            site.crane(0, 10, 4, 60, 2);
            steps(site, 0, 2, 2);
            steps(site, 0, 5, 2);
            site.wind(0, 9, bearing);
            boolean isIn = bearing >= 2 && bearing <= 4;
            is(isIn && bearing != 2 ? 1 : 0, site.rest(1));
            is(isIn ? row(bearing, 1, 9) : "2 3 7", ofCrane(site, 0, 4, 6));
        }
    }

    private static void promise12NotIntoTheBuilding() {
        for (int level = 0; level <= 20; level++) {
            Slewyard site = tenByTen();
            site.crane(55, 10, 4, 60, 2);
            steps(site, 0, 2, 2);
            steps(site, 0, 5, 2);
            site.level(65, level);
            site.wind(0, 9, 4);
            is(level <= 8 ? 1 : 0, site.rest(1));
            is(level <= 8 ? "4 1 9" : "2 3 7", ofCrane(site, 0, 4, 6));
        }
    }

    private static void promise12AlsoOneThatHasItsBearing() {
        Slewyard site = tenByTen();
        site.crane(55, 10, 4, 60, 2);
        site.crane(11, 10, 2, 60, 2);
        steps(site, 0, 2, 2);
        steps(site, 0, 5, 2);
        site.wind(0, 8, 2);
        is(0, site.rest(1));
        is("2 1 9", ofCrane(site, 0, 4, 6));
        is("2 1 9", ofCrane(site, 1, 4, 6));
    }

    private static void promise12OneBehindTheOther() {
        Slewyard site = tenByTen();
        is(0, site.crane(50, 10, 2, 60, 0));
        is(1, site.crane(53, 10, 2, 60, 0));
        is(2, site.crane(56, 10, 2, 60, 0));
        is(3, site.crane(59, 10, 2, 60, 0));
        site.wind(0, 9, 2);
        is(3, site.rest(1));
        is("2 2 2 0", row(site.ofCrane(0, 4), site.ofCrane(1, 4), site.ofCrane(2, 4), site.ofCrane(3, 4)));
        is("2 5 10 4 3", row(site.ofCrane(0, 13), site.ofCrane(1, 13), site.ofCrane(2, 13), site.ofCrane(3, 13),
            site.many(8)));
        is("0 0 0", row(site.many(9), site.many(10), site.many(11)));
        is(true, site.isSound());
    }
}
