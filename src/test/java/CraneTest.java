/** Promises 7 to 12: what cranes do. A YARD of 10 x 10 has ROW and COLUMN as digits. */
final class CraneTest extends Scenes {
    private static final int[] OUTSIDE = {-1, 100, Integer.MIN_VALUE, Integer.MAX_VALUE};

    public static void main(String[] args) {
        promise7ANewCrane();
        promise7Bounds();
        promise7WhatIsThere();
        promise7ItsPlumbAndHook();
        promise7ItMayNotClash();
        promise7HigherOnesSweepOverTowers();
        promise8EachMotion();
        promise8SwayAndWork();
        promise8Reason1();
        promise8Reason2();
        promise8Reason3();
        promise8Reason4();
        promise8Reason5();
        promise8Reason6();
        promise8Reason6WithALoad();
        promise8Reason7();
        promise8Reason7ByHookAndTower();
        promise8ClashesThatAreAlready();
        promise8NearMissesOfJibs();
        promise8NearMissesOfHooks();
        promise8NearMissesOfTowers();
        promise8TimeEnds();
        promise8Bounds();
        promise9Hang();
        promise9WhatItTakes();
        promise10Set();
        promise10WhatItTakes();
        promise11Hand();
        promise11WhatItTakes();
        promise11Bounds();
        promise12TimeAndSway();
        promise12Turning();
        promise12WhatStays();
        promise12WhateverClashes();
        promise12Bounds();
        end("CraneTest");
    }

    // ---- promise 7

    private static void promise7ANewCrane() {
        Slewyard site = tenByTen();
        is(0, site.crane(55, 10, 3, 60, 2));
        is("55 10 3 60 2 1 9 0 0 -1 56 60 4 0 0", ofCrane(site, 0, 0, 14));
        is(1, site.crane(0, 3, 2, 5, 4));
        is("0 3 2 5 4 1 2 0 0 -1 10 5 3 0 0", ofCrane(site, 1, 0, 14));
        is(2, site.crane(99, 30, 9, 400, 0));
        is("99 30 9 400 0 1 29 0 0 -1 89 400 10 0 0", ofCrane(site, 2, 0, 14));
        is(3, site.crane(90, 3, 2, 5, 0));
        is(4, site.many(3));
        state(() -> site.crane(5, 3, 2, 5, 2));
        argument(() -> site.crane(5, 2, 2, 5, 2));
        is(4, site.many(3));
        is(0, site.many(1));
    }

    private static void promise7Bounds() {
        Slewyard site = tenByTen();
        for (int cell : OUTSIDE) {
            index(() -> site.crane(cell, 10, 3, 60, 2));
            index(() -> site.crane(cell, 31, 1, 4, 8));
        }
        site.load(44, 1);
        for (int cell : new int[] {55, 44}) {
            for (int wrong : new int[] {2, 31, 0, Integer.MIN_VALUE, Integer.MAX_VALUE}) {
                argument(() -> site.crane(cell, wrong, 3, 60, 2));
            }
            for (int wrong : new int[] {1, 10, 0, Integer.MIN_VALUE, Integer.MAX_VALUE}) {
                argument(() -> site.crane(cell, 10, wrong, 60, 2));
            }
            for (int wrong : new int[] {4, 401, 0, Integer.MIN_VALUE, Integer.MAX_VALUE}) {
                argument(() -> site.crane(cell, 10, 3, wrong, 2));
            }
            for (int wrong : new int[] {-1, 8, Integer.MIN_VALUE, Integer.MAX_VALUE}) {
                argument(() -> site.crane(cell, 10, 3, 60, wrong));
            }
        }
        is(0, site.many(3));
    }

    private static void promise7WhatIsThere() {
        Slewyard site = tenByTen();
        site.crane(55, 10, 2, 60, 2);
        state(() -> site.crane(55, 20, 2, 60, 6));
        site.load(0, 1);
        state(() -> site.crane(0, 10, 2, 60, 4));
        site.level(9, 1);
        state(() -> site.crane(9, 10, 2, 60, 4));
        is(1, site.level(9, 0));
        is(1, site.crane(9, 10, 2, 60, 4));
    }

    private static void promise7ItsPlumbAndHook() {
        Slewyard site = tenByTen();
        state(() -> site.crane(0, 10, 2, 60, 0));
        state(() -> site.crane(0, 10, 2, 60, 7));
        state(() -> site.crane(0, 10, 2, 60, 5));
        state(() -> site.crane(99, 10, 2, 60, 3));
        state(() -> site.crane(9, 10, 2, 60, 2));
        site.level(13, 2);
        state(() -> site.crane(12, 3, 2, 50, 2));
        site.level(13, 1);
        is(0, site.crane(12, 3, 2, 50, 2));
        site.level(64, 20);
        is(1, site.crane(62, 10, 2, 60, 2));
    }

    private static void promise7ItMayNotClash() {
        for (int mast = 3; mast <= 30; mast++) {
            Slewyard site = tenByTen();
            site.crane(44, 15, 3, 60, 2);
            int height = mast;
            if (mast > 12 && mast < 18) {
                state(() -> site.crane(49, height, 2, 60, 7));
                state(() -> site.crane(57, height, 2, 60, 0));
                is(1, site.crane(59, height, 2, 60, 0));
            } else {
                is(1, site.crane(49, height, 2, 60, 7));
            }
        }
        Slewyard site = tenByTen();
        site.crane(44, 15, 3, 60, 2);
        state(() -> site.crane(25, 15, 2, 60, 4));
        is(1, site.crane(25, 15, 2, 60, 2));
    }

    private static void promise7HigherOnesSweepOverTowers() {
        Slewyard site = tenByTen();
        site.crane(44, 10, 5, 60, 2);
        state(() -> site.crane(46, 20, 2, 60, 0));
        state(() -> site.crane(56, 13, 2, 60, 4));
        state(() -> site.crane(46, 8, 2, 60, 0));
        is(1, site.crane(46, 7, 2, 60, 0));
        is(0, site.clash(0, 1));
        is(2, site.crane(66, 13, 2, 60, 4));
    }

    // ---- promise 8

    private static void promise8EachMotion() {
        Slewyard site = tenByTen();
        site.crane(55, 10, 3, 300, 2);
        is(0, site.step(0, 0));
        is("3 1 9 2 1", ofCrane(site, 0, 4, 8));
        is(0, site.step(0, 1));
        is("2 1 9 4 2", ofCrane(site, 0, 4, 8));
        is(0, site.step(0, 2));
        is("2 2 9 3 3", ofCrane(site, 0, 4, 8));
        is(57, site.ofCrane(0, 10));
        is(0, site.step(0, 3));
        is("2 1 9 2 4", ofCrane(site, 0, 4, 8));
        is(0, site.step(0, 5));
        is("2 1 8 1 5", ofCrane(site, 0, 4, 8));
        is(0, site.step(0, 4));
        is("2 1 9 0 6", ofCrane(site, 0, 4, 8));
        is(0, site.step(0, 5));
        is("2 1 8 0 7", ofCrane(site, 0, 4, 8));
        is(0, site.step(0, 6));
        is("2 1 8 0 0", ofCrane(site, 0, 4, 8));
        is("8 8 0", row(site.many(1), site.many(10), site.many(11)));
        int[] plumbs = {56, 66, 65, 64, 54, 44, 45, 46, 56};
        for (int k = 1; k < plumbs.length; k++) {
            is(0, site.step(0, 0));
            is(row((2 + k) % 8, plumbs[k]), row(site.ofCrane(0, 4), site.ofCrane(0, 10)));
        }
        for (int k = plumbs.length - 2; k >= 0; k--) {
            is(0, site.step(0, 1));
            is(row((2 + k) % 8, plumbs[k]), row(site.ofCrane(0, 4), site.ofCrane(0, 10)));
        }
    }

    private static void promise8SwayAndWork() {
        Slewyard site = tenByTen();
        site.crane(55, 4, 3, 300, 2);
        site.crane(90, 20, 2, 300, 0);
        for (int k = 1; k <= 12; k++) {
            is(0, site.step(0, 0));
            is(row(Math.min(20, 2 * k), k), ofCrane(site, 0, 7, 8));
        }
        is("0 0", ofCrane(site, 1, 7, 8));
        is(0, site.step(0, 6));
        is("19 0", ofCrane(site, 0, 7, 8));
        site.rest(20);
        site.load(54, 10);
        is("6 54", row(site.ofCrane(0, 4), site.ofCrane(0, 10)));
        steps(site, 0, 5, 2);
        is(0, site.hang(0));
        steps(site, 0, 4, 1);
        for (int k = 1; k <= 8; k++) {
            is(0, site.step(0, 0));
            is(row(Math.min(20, 3 * k), 3 + k), ofCrane(site, 0, 7, 8));
        }
        is(0, site.step(0, 5));
        is("19 12", ofCrane(site, 0, 7, 8));
    }

    private static void promise8Reason1() {
        Slewyard site = tenByTen();
        site.crane(11, 10, 2, 300, 2);
        is(1, site.step(0, 3));
        is(1, site.step(0, 4));
        is("2 1 9 0 0", ofCrane(site, 0, 4, 8));
        is("0 0 2", row(site.many(1), site.many(10), site.many(11)));
        is(0, site.step(0, 2));
        is(1, site.step(0, 2));
        is("2 2 9 0 1", ofCrane(site, 0, 4, 8));
        steps(site, 0, 0, 2);
        is(1, site.step(0, 0));
        steps(site, 0, 3, 1);
        steps(site, 0, 0, 4);
        is("0 1", row(site.ofCrane(0, 4), site.ofCrane(0, 10)));
        is(1, site.step(0, 2));
        is(0, site.step(0, 1));
        is(0, site.ofCrane(0, 10));
        is(1, site.step(0, 2));
        site.crane(90, 10, 3, 300, 2);
        is(1, site.step(1, 0));
        site.wind(0, 9, 0);
        is(1, site.step(1, 0));
        is(2, site.step(1, 1));
    }

    private static void promise8Reason2() {
        Slewyard site = tenByTen();
        site.crane(55, 10, 3, 300, 2);
        site.wind(0, 6, 0);
        is(0, site.step(0, 0));
        site.wind(0, 7, 0);
        for (int motion = 0; motion <= 5; motion++) {
            is(motion == 3 || motion == 4 ? 1 : 2, site.step(0, motion));
        }
        is(0, site.step(0, 6));
        site.wind(0, 9, 0);
        is(2, site.step(0, 5));
        is(0, site.step(0, 6));
        is("3 1 9 0 0", ofCrane(site, 0, 4, 8));
        site.wind(4, 0, 0);
        is(2, site.step(0, 5));
        is(0, site.step(0, 6));
        is(0, site.step(0, 5));
    }

    private static void promise8Reason3() {
        Slewyard site = tenByTen();
        site.crane(55, 10, 3, 300, 2);
        steps(site, 0, 0, 29);
        is(29, site.ofCrane(0, 8));
        is(0, site.step(0, 5));
        for (int motion = 0; motion <= 5; motion++) {
            is(motion == 3 ? 1 : 3, site.step(0, motion));
        }
        site.wind(0, 7, 0);
        is(2, site.step(0, 0));
        site.wind(0, 0, 0);
        is(30, site.ofCrane(0, 8));
        site.rest(100);
        is(3, site.step(0, 0));
        is(0, site.step(0, 6));
        is(0, site.step(0, 0));
        is(1, site.ofCrane(0, 8));
    }

    /** A CRANE of a MOMENT of 60 at 55 that has a LOAD of 20 on its HOOK, 3 above the ground, at 56. */
    private static Slewyard withALoad() {
        Slewyard site = tenByTen();
        is(0, site.crane(55, 4, 4, 60, 2));
        is(0, site.load(56, 20));
        steps(site, 0, 5, 2);
        is(0, site.hang(0));
        steps(site, 0, 4, 2);
        return site;
    }

    private static void promise8Reason4() {
        Slewyard site = withALoad();
        is(0, site.step(0, 2));
        is(0, site.step(0, 2));
        is(4, site.step(0, 2));
        site.zone(59, 1, 1, 0, 23);
        is(4, site.step(0, 2));
        is(0, site.step(0, 3));
        site.wind(0, 6, 0);
        is(4, site.step(0, 2));
        is(0, site.step(0, 5));
        site.wind(0, 9, 0);
        is(2, site.step(0, 4));
        is(0, site.step(0, 6));
        site.wind(0, 5, 0);
        is(0, site.step(0, 4));
        Slewyard heavy = tenByTen();
        heavy.crane(55, 4, 4, 20, 2);
        heavy.load(56, 20);
        steps(heavy, 0, 5, 2);
        is(0, heavy.hang(0));
        is(0, heavy.step(0, 4));
        heavy.wind(0, 5, 0);
        is(4, heavy.step(0, 4));
        is(4, heavy.step(0, 5));
        is(4, heavy.step(0, 0));
        is(0, heavy.step(0, 6));
    }

    private static void promise8Reason5() {
        Slewyard site = withALoad();
        site.zone(57, 1, 1, 0, 0);
        is(5, site.step(0, 2));
        site.level(57, 2);
        is(5, site.step(0, 2));
        site.level(57, 0);
        site.zone(56, 1, 1, 0, 0);
        is(5, site.step(0, 5));
        is(0, site.step(0, 6));
        is(0, site.step(0, 0));
        is(5, site.step(0, 1));
        site.rest(20 - site.many(1));
        is(1, site.many(2));
        is(0, site.step(0, 1));
        is(0, site.step(0, 2));
        Slewyard free = tenByTen();
        free.crane(55, 4, 4, 60, 2);
        free.zone(0, 10, 10, 0, 23);
        is(0, free.step(0, 2));
        is(0, free.step(0, 5));
        is(0, free.step(0, 0));
    }

    private static void promise8Reason6() {
        Slewyard site = tenByTen();
        site.crane(55, 4, 4, 60, 2);
        site.level(57, 3);
        is(6, site.step(0, 2));
        site.level(57, 2);
        is(0, site.step(0, 2));
        is(6, site.step(0, 5));
        is(0, site.step(0, 3));
        site.level(66, 3);
        is(6, site.step(0, 0));
        site.level(46, 5);
        is(6, site.step(0, 1));
        is(0, site.step(0, 5));
        is(0, site.step(0, 5));
        is(1, site.ofCrane(0, 6));
        is(6, site.step(0, 5));
        is(0, site.step(0, 4));
        is("5 2", row(site.many(10), site.ofCrane(0, 6)));
    }

    private static void promise8Reason6WithALoad() {
        Slewyard site = withALoad();
        site.level(57, 2);
        is(6, site.step(0, 2));
        site.level(57, 1);
        is(0, site.step(0, 2));
        is(0, site.step(0, 5));
        is(6, site.step(0, 5));
        site.level(58, 1);
        is(6, site.step(0, 2));
        is(0, site.step(0, 4));
        is(0, site.step(0, 2));
        is(0, site.step(0, 5));
        is("58 2", row(site.ofCrane(0, 10), site.ofCrane(0, 6)));
        is("0 0 4 6 0 6 0", wouldAll(site, 0));
        site.level(88, 1);
        site.level(28, 1);
        is("6 6 4 6 0 6 0", wouldAll(site, 0));
        is(6, site.step(0, 3));
        is(0, site.set(0));
        is(0, site.step(0, 3));
    }

    private static void promise8Reason7() {
        Slewyard site = tenByTen();
        site.crane(52, 10, 2, 60, 1);
        site.crane(55, 10, 2, 60, 2);
        is(7, site.step(0, 0));
        is(0, site.step(0, 1));
        site.level(53, 20);
        is(0, site.step(0, 0));
        is(6, site.step(0, 0));
        site.level(53, 0);
        is(7, site.step(0, 0));
        is(0, site.step(0, 6));
        is("0 0", row(site.many(8), site.ofCrane(0, 13)));
    }

    private static void promise8Reason7ByHookAndTower() {
        Slewyard site = tenByTen();
        site.crane(22, 4, 2, 60, 2);
        site.crane(55, 10, 3, 60, 0);
        steps(site, 1, 5, 3);
        steps(site, 1, 2, 1);
        is("6 35", row(site.ofCrane(1, 6), site.ofCrane(1, 10)));
        is(7, site.step(1, 5));
        steps(site, 1, 3, 1);
        steps(site, 1, 5, 1);
        is(7, site.step(1, 2));
        is(0, site.clash(0, 1));
        Slewyard towers = tenByTen();
        towers.crane(44, 10, 3, 60, 2);
        towers.crane(66, 13, 2, 60, 4);
        is(7, towers.step(0, 0));
        Slewyard low = tenByTen();
        low.crane(44, 10, 3, 60, 2);
        low.crane(66, 7, 2, 60, 4);
        is(0, low.step(0, 0));
        is(0, low.step(0, 1));
        is(0, low.step(1, 0));
        is(0, low.step(1, 0));
        is("6", ofCrane(low, 1, 4, 4));
        is(7, low.step(1, 0));
    }

    private static void promise8ClashesThatAreAlready() {
        Slewyard site = clashing();
        is("2 1 1", row(site.ofCrane(0, 13), site.ofCrane(1, 13), site.many(8)));
        is(0, site.step(0, 2));
        is(0, site.step(0, 5));
        is(0, site.many(9));
        is(0, site.step(0, 0));
        is("0 1 1", row(site.many(8), site.ofCrane(0, 14), site.many(9)));
        is(7, site.step(0, 1));
        site.crane(20, 10, 2, 60, 0);
        Slewyard third = clashing();
        is(2, third.crane(33, 20, 2, 60, 0));
        is("0 2", row(third.clash(2, 1), third.ofCrane(0, 13)));
        is(7, third.step(0, 1));
    }

    private static void promise8NearMissesOfJibs() {
        Slewyard site = tenByTen();
        site.crane(52, 10, 2, 60, 6);
        site.crane(56, 10, 3, 60, 2);
        site.crane(94, 12, 2, 60, 2);
        steps(site, 0, 0, 1);
        is("0 0 0 0", row(site.ofCrane(0, 14), site.ofCrane(1, 14), site.ofCrane(2, 14), site.many(9)));
        steps(site, 0, 1, 3);
        is("4 1", row(site.ofCrane(0, 4), site.ofCrane(0, 14)));
        steps(site, 0, 1, 1);
        is("3 0 0 3", row(site.ofCrane(0, 14), site.ofCrane(1, 14), site.ofCrane(2, 14), site.many(9)));
        steps(site, 1, 5, 1);
        steps(site, 2, 6, 1);
        is("3 1 0 4", row(site.ofCrane(0, 14), site.ofCrane(1, 14), site.ofCrane(2, 14), site.many(9)));
        steps(site, 0, 1, 1);
        is("2 4 1 0", row(site.ofCrane(0, 4), site.ofCrane(0, 14), site.ofCrane(1, 14), site.ofCrane(2, 14)));
    }

    private static void promise8NearMissesOfHooks() {
        Slewyard site = tenByTen();
        site.crane(22, 4, 2, 60, 2);
        site.crane(55, 10, 3, 60, 0);
        steps(site, 1, 5, 3);
        is("6 0", row(site.ofCrane(1, 6), site.many(9)));
        steps(site, 1, 5, 1);
        is("5 1 0", row(site.ofCrane(1, 6), site.ofCrane(1, 14), site.ofCrane(0, 14)));
        steps(site, 1, 6, 2);
        is(1, site.many(9));
        steps(site, 0, 5, 1);
        is("1 1 2", row(site.ofCrane(1, 14), site.ofCrane(0, 14), site.many(9)));
        is(7, site.step(1, 2));
        site.rest(5);
        is("1 1 2", row(site.ofCrane(1, 14), site.ofCrane(0, 14), site.many(9)));
    }

    private static void promise8NearMissesOfTowers() {
        for (int mast = 3; mast <= 13; mast++) {
            Slewyard site = tenByTen();
            site.crane(22, 10, 2, 60, 2);
            site.crane(26, mast, 2, 60, 2);
            steps(site, 0, 5, 1);
            is(mast > 7 ? 1 : 0, site.ofCrane(0, 14));
            steps(site, 1, 5, 1);
            is(mast > 7 ? 1 : 0, site.ofCrane(1, 14));
        }
        Slewyard far = tenByTen();
        far.crane(22, 10, 2, 60, 2);
        far.crane(27, 20, 2, 60, 2);
        steps(far, 0, 5, 1);
        is(0, far.many(9));
    }

    private static void promise8TimeEnds() {
        Slewyard site = tenByTen();
        site.crane(55, 10, 3, 300, 2);
        for (int k = 0; k < 5; k++) {
            site.rest(100);
        }
        site.rest(99);
        is(0, site.step(0, 0));
        is(600, site.many(1));
        state(() -> site.step(0, 0));
        state(() -> site.step(0, 3));
        state(() -> site.step(0, 6));
        argument(() -> site.step(0, 7));
        index(() -> site.step(1, 0));
        is("600 1 0", row(site.many(1), site.many(10), site.many(11)));
    }

    private static void promise8Bounds() {
        Slewyard site = tenByTen();
        site.crane(55, 10, 3, 300, 2);
        for (int wrong : new int[] {-1, 1, 4, Integer.MIN_VALUE, Integer.MAX_VALUE}) {
            index(() -> site.step(wrong, 0));
            index(() -> site.step(wrong, 7));
        }
        for (int wrong : new int[] {-1, 7, Integer.MIN_VALUE, Integer.MAX_VALUE}) {
            argument(() -> site.step(0, wrong));
        }
        is("0 0 0", row(site.many(1), site.many(10), site.many(11)));
    }

    // ---- promise 9

    private static void promise9Hang() {
        Slewyard site = tenByTen();
        site.crane(55, 3, 3, 60, 2);
        site.load(50, 1);
        site.load(56, 60);
        site.load(56, 5);
        is(0, site.step(0, 5));
        is(1, site.hang(0));
        is("1 0 1", row(site.ofCrane(0, 9), site.ofLoad(1, 2), site.many(12)));
        is("-1 -1 1", row(site.ofLoad(0, 2), site.ofLoad(2, 2), site.ofCell(56, 1)));
        is(-1, site.hang(0));
        is(1, site.set(0));
        is(1, site.hang(0));
        is("1 0", row(site.many(1), site.many(11)));
        for (int crane : new int[] {-1, 1, 4, Integer.MIN_VALUE, Integer.MAX_VALUE}) {
            index(() -> site.hang(crane));
        }
    }

    private static void promise9WhatItTakes() {
        Slewyard site = tenByTen();
        site.crane(55, 4, 3, 59, 2);
        is(-1, site.hang(0));
        steps(site, 0, 5, 2);
        is(-1, site.hang(0));
        site.load(57, 1);
        is(-1, site.hang(0));
        site.load(56, 60);
        site.load(56, 5);
        is(-1, site.hang(0));
        is("-1 0", row(site.ofCrane(0, 9), site.many(12)));
        Slewyard calm = tenByTen();
        calm.crane(55, 4, 3, 60, 2);
        calm.load(66, 30);
        steps(calm, 0, 5, 2);
        steps(calm, 0, 0, 1);
        is("2 1", row(calm.ofCrane(0, 7), calm.ofCrane(0, 6)));
        is(-1, calm.hang(0));
        steps(calm, 0, 4, 1);
        is("1 2", row(calm.ofCrane(0, 7), calm.ofCrane(0, 6)));
        is(-1, calm.hang(0));
        steps(calm, 0, 0, 1);
        steps(calm, 0, 1, 1);
        steps(calm, 0, 6, 3);
        steps(calm, 0, 5, 1);
        is("1 1", row(calm.ofCrane(0, 7), calm.ofCrane(0, 6)));
        is(0, calm.hang(0));
        Slewyard high = tenByTen();
        high.crane(55, 9, 3, 60, 2);
        high.level(56, 7);
        high.load(56, 52);
        high.wind(0, 9, 2);
        is("50 8", row(high.ofCrane(0, 11), high.ofCrane(0, 6)));
        is(-1, high.hang(0));
        high.wind(0, 8, 2);
        is(0, high.hang(0));
        is("0 0", row(high.ofLoad(0, 2), high.ofCrane(0, 9)));
    }

    // ---- promise 10

    private static void promise10Set() {
        Slewyard site = withALoad();
        is(-1, site.set(0));
        steps(site, 0, 2, 1);
        steps(site, 0, 5, 1);
        is(-1, site.set(0));
        steps(site, 0, 5, 1);
        int time = site.many(1);
        is(0, site.set(0));
        is(row(-1, 57, -1, 1, 0, time), row(site.ofCrane(0, 9), site.ofLoad(0, 1), site.ofLoad(0, 2),
            site.ofCell(57, 1), site.many(12), site.many(1)));
        is(-1, site.set(0));
        for (int crane : new int[] {-1, 1, 4, Integer.MIN_VALUE, Integer.MAX_VALUE}) {
            index(() -> site.set(crane));
        }
    }

    private static void promise10WhatItTakes() {
        Slewyard site = withALoad();
        steps(site, 0, 5, 1);
        steps(site, 0, 0, 1);
        steps(site, 0, 5, 1);
        is("2 1", row(site.ofCrane(0, 7), site.ofCrane(0, 6)));
        is(-1, site.set(0));
        steps(site, 0, 6, 1);
        is("1 1", row(site.ofCrane(0, 7), site.ofCrane(0, 6)));
        is(0, site.set(0));
        Slewyard over = tenByTen();
        over.crane(55, 10, 3, 60, 2);
        over.load(56, 20);
        steps(over, 0, 5, 8);
        is(0, over.hang(0));
        steps(over, 0, 4, 4);
        over.crane(57, 3, 2, 60, 2);
        steps(over, 0, 2, 1);
        is("57 1 5", row(over.ofCrane(0, 10), over.ofCell(57, 3), over.ofCrane(0, 6)));
        is(-1, over.set(0));
        is(7, over.step(0, 5));
        Slewyard mound = withALoad();
        mound.level(57, 1);
        steps(mound, 0, 2, 1);
        is(-1, mound.set(0));
        steps(mound, 0, 5, 1);
        is("2 0", row(mound.ofCrane(0, 6), mound.set(0)));
    }

    // ---- promise 11

    private static void promise11Hand() {
        Slewyard site = meeting(60);
        int time = site.many(1);
        is(-1, site.hand(1, 0));
        is(0, site.hand(0, 1));
        is("-1 0 1 45 1", row(site.ofCrane(0, 9), site.ofCrane(1, 9), site.ofLoad(0, 2), site.ofLoad(0, 1),
            site.many(12)));
        is(time, site.many(1));
        is(-1, site.hand(0, 1));
        is(0, site.hand(1, 0));
        is("0 -1 0 43", row(site.ofCrane(0, 9), site.ofCrane(1, 9), site.ofLoad(0, 2), site.ofLoad(0, 1)));
    }

    private static void promise11WhatItTakes() {
        is(-1, meeting(59).hand(0, 1));
        Slewyard wind = meeting(64);
        wind.wind(0, 6, 0);
        is(-1, wind.hand(0, 1));
        wind.wind(0, 4, 0);
        is(0, wind.hand(0, 1));
        Slewyard far = meeting(400);
        steps(far, 1, 3, 1);
        is(-1, far.hand(0, 1));
        Slewyard high = meeting(60);
        steps(high, 1, 4, 2);
        is(0, high.hand(0, 1));
        Slewyard higher = meeting(60);
        steps(higher, 1, 4, 3);
        is(-1, higher.hand(0, 1));
        Slewyard low = meeting(60);
        steps(low, 1, 5, 1);
        is(-1, low.hand(0, 1));
        Slewyard ground = meeting(60);
        ground.level(45, 1);
        is(-1, ground.hand(0, 1));
        steps(ground, 1, 4, 1);
        is(0, ground.hand(0, 1));
        Slewyard lower = meeting(60);
        steps(lower, 0, 5, 1);
        is(0, lower.hand(0, 1));
        promise11FullHandsAndSway();
    }

    private static void promise11FullHandsAndSway() {
        Slewyard both = meeting(60);
        both.load(45, 1);
        steps(both, 1, 5, 1);
        is(1, both.hang(1));
        steps(both, 1, 4, 1);
        is(-1, both.hand(0, 1));
        is("0 1", row(both.ofCrane(0, 9), both.ofCrane(1, 9)));
        Slewyard taker = meeting(60);
        steps(taker, 1, 0, 1);
        steps(taker, 1, 1, 1);
        steps(taker, 1, 6, 2);
        is("2 45", row(taker.ofCrane(1, 7), taker.ofCrane(1, 10)));
        is(-1, taker.hand(0, 1));
        steps(taker, 1, 6, 1);
        is(0, taker.hand(0, 1));
        Slewyard giver = meeting(60);
        steps(giver, 0, 0, 1);
        steps(giver, 0, 1, 1);
        steps(giver, 0, 6, 4);
        is("2 43", row(giver.ofCrane(0, 7), giver.ofCrane(0, 10)));
        is(-1, giver.hand(0, 1));
        steps(giver, 0, 6, 1);
        is(0, giver.hand(0, 1));
    }

    private static void promise11Bounds() {
        Slewyard site = meeting(60);
        for (int wrong : new int[] {-1, 2, 4, Integer.MIN_VALUE, Integer.MAX_VALUE}) {
            index(() -> site.hand(wrong, 0));
            index(() -> site.hand(0, wrong));
            index(() -> site.hand(wrong, wrong));
        }
        argument(() -> site.hand(0, 0));
        argument(() -> site.hand(1, 1));
        is(0, site.hand(0, 1));
    }

    // ---- promise 12

    private static void promise12TimeAndSway() {
        Slewyard site = tenByTen();
        site.crane(22, 10, 2, 60, 2);
        site.crane(77, 10, 2, 60, 2);
        steps(site, 0, 0, 5);
        steps(site, 1, 1, 2);
        is(0, site.rest(3));
        is("10 7 5 1 2", row(site.many(1), site.ofCrane(0, 7), site.ofCrane(0, 8), site.ofCrane(1, 7),
            site.ofCrane(1, 8)));
        is(0, site.rest(5));
        is("15 2 5 0 2", row(site.many(1), site.ofCrane(0, 7), site.ofCrane(0, 8), site.ofCrane(1, 7),
            site.ofCrane(1, 8)));
        is("7 0 7", row(site.many(10), site.many(11), site.ofCrane(0, 4)));
    }

    private static void promise12Turning() {
        Slewyard site = tenByTen();
        site.crane(22, 10, 3, 60, 2);
        site.crane(77, 10, 2, 60, 0);
        site.crane(27, 20, 2, 60, 4);
        steps(site, 0, 2, 2);
        steps(site, 0, 5, 3);
        steps(site, 1, 5, 1);
        is("2 3 6", ofCrane(site, 0, 4, 6));
        site.wind(10, 7, 4);
        site.wind(20, 8, 2);
        site.wind(30, 9, 0);
        is(0, site.rest(4));
        is("2 3 6", ofCrane(site, 0, 4, 6));
        is(0, site.rest(9));
        is("2 3 6", ofCrane(site, 0, 4, 6));
        is(2, site.rest(1));
        is("2 1 9 0 5", ofCrane(site, 0, 4, 8));
        is("2 1 9 0 1", ofCrane(site, 1, 4, 8));
        is("2 1 19 0 0", ofCrane(site, 2, 4, 8));
        is(0, site.rest(9));
        is(3, site.rest(1));
        is("0 1 9", ofCrane(site, 0, 4, 6));
        is("12 67 17", row(site.ofCrane(0, 10), site.ofCrane(1, 10), site.ofCrane(2, 10)));
        is("3 3 3", row(site.ofCrane(0, 12), site.ofCrane(1, 12), site.ofCrane(2, 12)));
        is("6 0", row(site.many(10), site.many(11)));
    }

    private static void promise12WhatStays() {
        Slewyard site = withALoad();
        site.crane(1, 5, 2, 60, 4);
        site.crane(99, 5, 2, 60, 0);
        site.crane(82, 5, 2, 60, 0);
        steps(site, 1, 5, 1);
        site.level(72, 3);
        site.level(73, 4);
        site.wind(0, 9, 1);
        is(0, site.rest(1));
        is("2 1 3", ofCrane(site, 0, 4, 6));
        is("4 1 3", ofCrane(site, 1, 4, 6));
        is("0 1 4", ofCrane(site, 2, 4, 6));
        is("0 1 4", ofCrane(site, 3, 4, 6));
        site.level(73, 3);
        is(1, site.rest(1));
        is("1 1 4", ofCrane(site, 3, 4, 6));
        site.wind(0, 9, 0);
        is(1, site.rest(1));
        is("0 1 4", ofCrane(site, 3, 4, 6));
        is("4 1 3", ofCrane(site, 1, 4, 6));
        is(3, site.level(73, 1));
    }

    private static void promise12WhateverClashes() {
        Slewyard site = clashing();
        is("2 1 2 1 0", row(site.ofCrane(0, 4), site.ofCrane(0, 5), site.ofCrane(1, 4), site.many(8), site.many(9)));
        site.wind(1, 9, 6);
        is(2, site.rest(1));
        is("6 6 1", row(site.ofCrane(0, 4), site.ofCrane(1, 4), site.many(8)));
        is(0, site.rest(1));
    }

    private static void promise12Bounds() {
        Slewyard site = tenByTen();
        for (int wrong : new int[] {0, 101, -1, Integer.MIN_VALUE, Integer.MAX_VALUE}) {
            argument(() -> site.rest(wrong));
        }
        for (int k = 1; k <= 5; k++) {
            is(0, site.rest(100));
        }
        is(0, site.rest(1));
        state(() -> site.rest(100));
        argument(() -> site.rest(101));
        is(501, site.many(1));
        is(0, site.rest(99));
        is("600 6", row(site.many(1), site.many(2)));
        state(() -> site.rest(1));
        argument(() -> site.rest(0));
        is(600, site.many(1));
    }
}
