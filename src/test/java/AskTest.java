/** Promises 13 to 26: what is asked. A YARD of 10 x 10 has ROW and COLUMN as digits. */
final class AskTest extends Scenes {
    private static final int[] FAR_OFF = {-1, 4, Integer.MIN_VALUE, Integer.MAX_VALUE};

    public static void main(String[] args) {
        promise13OfCrane();
        promise13Bounds();
        promise14OfLoad();
        promise14WhoCouldLift();
        promise14Bounds();
        promise15OfCell();
        promise15Bounds();
        promise16Would();
        promise16Bounds();
        promise17EachRule();
        promise17Bounds();
        promise18And19Alone();
        promise18And19BuildingAndEdges();
        promise18And19WithALoad();
        promise18And19Clashes();
        promise18And19Bounds();
        promise20Swing();
        promise20WhatStopsIt();
        promise20Bounds();
        promise21Order();
        promise21WhoIsThereStill();
        promise21Bounds();
        promise22Many();
        promise22Bounds();
        promise23Drawn();
        promise23Bounds();
        promise24IsSound();
        promise25Knock();
        promise26Digest();
        whatIsAskedChangesNothing();
        whatThrowsChangesNothing();
        end("AskTest");
    }

    /** A CRANE at 55 that has a LOAD on its HOOK at 56; the HOOK is 1 above the ground. */
    private static Slewyard withALoad(int moment, int weight) {
        Slewyard site = tenByTen();
        is(0, site.crane(55, 4, 3, moment, 2));
        is(0, site.load(56, weight));
        steps(site, 0, 5, 2);
        is(0, site.hang(0));
        return site;
    }

    // ---- promises 13 to 17

    private static void promise13OfCrane() {
        Slewyard site = withALoad(61, 20);
        steps(site, 0, 4, 1);
        steps(site, 0, 2, 1);
        steps(site, 0, 0, 1);
        is("55 4 3 61 3 2 2 3 5 0 77 30 4 0 0", ofCrane(site, 0, 0, 14));
        site.wind(0, 6, 0);
        is(26, site.ofCrane(0, 11));
        site.wind(0, 9, 0);
        is(20, site.ofCrane(0, 11));
        site.crane(90, 20, 9, 9, 1);
        is("90 20 9 9 1 1 19 0 0 -1 81 0 10 0 0", ofCrane(site, 1, 0, 14));
        site.wind(0, 4, 0);
        is("9 30", row(site.ofCrane(1, 11), site.ofCrane(0, 11)));
        Slewyard edge = tenByTen();
        edge.crane(1, 20, 9, 400, 6);
        is("2", ofCrane(edge, 0, 12, 12));
        edge.crane(98, 20, 9, 400, 0);
        is("10", ofCrane(edge, 1, 12, 12));
        Slewyard clash = clashing();
        is("2 1", row(clash.ofCrane(0, 13), clash.ofCrane(1, 13)));
    }

    private static void promise13Bounds() {
        Slewyard site = tenByTen();
        site.crane(55, 4, 3, 61, 2);
        index(() -> site.ofCrane(1, 0));
        for (int crane : FAR_OFF) {
            index(() -> site.ofCrane(crane, 0));
            index(() -> site.ofCrane(crane, 15));
        }
        for (int what : new int[] {-1, 15, Integer.MIN_VALUE, Integer.MAX_VALUE}) {
            argument(() -> site.ofCrane(0, what));
        }
    }

    private static void promise14OfLoad() {
        Slewyard site = withALoad(60, 20);
        is("20 56 0 1", row(site.ofLoad(0, 0), site.ofLoad(0, 1), site.ofLoad(0, 2), site.ofLoad(0, 3)));
        steps(site, 0, 4, 1);
        steps(site, 0, 0, 1);
        is("20 66 0 1", row(site.ofLoad(0, 0), site.ofLoad(0, 1), site.ofLoad(0, 2), site.ofLoad(0, 3)));
        steps(site, 0, 6, 3);
        steps(site, 0, 5, 1);
        is(0, site.set(0));
        is("20 66 -1 1", row(site.ofLoad(0, 0), site.ofLoad(0, 1), site.ofLoad(0, 2), site.ofLoad(0, 3)));
    }

    private static void promise14WhoCouldLift() {
        Slewyard site = tenByTen();
        site.crane(55, 10, 3, 60, 2);
        site.crane(50, 10, 2, 400, 1);
        int[] cells = {45, 37, 28, 58, 88, 85, 74, 53, 22, 15, 59, 34, 76, 52, 54};
        int[] lifters = {1, 1, 1, 1, 1, 1, 0, 1, 1, 0, 0, 0, 0, 3, 1};
        for (int k = 0; k < 8; k++) {
            is(k, site.load(cells[k], 20));
            is(lifters[k], site.ofLoad(k, 3));
        }
        Slewyard more = tenByTen();
        more.crane(55, 10, 3, 60, 2);
        more.crane(50, 10, 2, 400, 1);
        for (int k = 8; k < cells.length; k++) {
            is(k - 8, more.load(cells[k], 20));
            is(lifters[k], more.ofLoad(k - 8, 3));
        }
        more.wind(0, 5, 0);
        is("0 2 1", row(more.ofLoad(0, 3), more.ofLoad(5, 3), more.ofLoad(6, 3)));
        Slewyard heavy = tenByTen();
        heavy.crane(55, 10, 3, 60, 2);
        heavy.load(58, 21);
        heavy.load(57, 30);
        heavy.load(57, 31);
        heavy.load(56, 60);
        is("0 1 0 1", row(heavy.ofLoad(0, 3), heavy.ofLoad(1, 3), heavy.ofLoad(2, 3), heavy.ofLoad(3, 3)));
        promise14OverATower();
    }

    private static void promise14OverATower() {
        Slewyard site = tenByTen();
        site.crane(55, 20, 3, 60, 2);
        site.load(56, 10);
        steps(site, 0, 5, 18);
        is(0, site.hang(0));
        steps(site, 0, 4, 9);
        site.crane(57, 6, 2, 60, 2);
        steps(site, 0, 2, 1);
        is("57 0 1", row(site.ofLoad(0, 1), site.ofLoad(0, 2), site.ofLoad(0, 3)));
    }

    private static void promise14Bounds() {
        Slewyard site = tenByTen();
        index(() -> site.ofLoad(0, 0));
        site.load(1, 7);
        index(() -> site.ofLoad(1, 0));
        for (int load : new int[] {-1, 8, Integer.MIN_VALUE, Integer.MAX_VALUE}) {
            index(() -> site.ofLoad(load, 0));
            index(() -> site.ofLoad(load, 4));
        }
        for (int what : new int[] {-1, 4, Integer.MIN_VALUE, Integer.MAX_VALUE}) {
            argument(() -> site.ofLoad(0, what));
        }
    }

    private static void promise15OfCell() {
        Slewyard site = tenByTen();
        site.crane(55, 10, 3, 60, 3);
        site.crane(58, 5, 2, 60, 4);
        site.level(77, 3);
        site.load(77, 1);
        site.load(77, 1);
        site.zone(77, 1, 1, 0, 0);
        is("3 2 1 -1 1", row(site.ofCell(77, 0), site.ofCell(77, 1), site.ofCell(77, 2), site.ofCell(77, 3),
            site.ofCell(77, 4)));
        is("0 0 2 1 0", row(site.ofCell(58, 0), site.ofCell(58, 1), site.ofCell(58, 2), site.ofCell(58, 3),
            site.ofCell(58, 4)));
        is("1 1 1 2 2 0 0 0", row(site.ofCell(55, 2), site.ofCell(66, 2), site.ofCell(88, 2), site.ofCell(68, 2),
            site.ofCell(78, 2), site.ofCell(99, 2), site.ofCell(44, 2), site.ofCell(56, 2)));
        is("0 -1", row(site.ofCell(55, 3), site.ofCell(54, 3)));
        site.rest(20);
        is(0, site.ofCell(77, 4));
        Slewyard hung = withALoad(60, 20);
        is(0, hung.ofCell(56, 1));
        hung.crane(82, 20, 3, 60, 1);
        is("1 2 2 3", row(hung.ofCell(56, 2), hung.ofCell(64, 2), hung.ofCell(73, 2), hung.ofCell(55, 2)));
        Slewyard over = tenByTen();
        over.crane(55, 20, 3, 60, 2);
        over.crane(57, 6, 2, 60, 2);
        is("3 1", row(over.ofCell(57, 2), over.ofCell(56, 2)));
    }

    private static void promise15Bounds() {
        Slewyard site = new Slewyard();
        site.yard(6, 7);
        for (int cell : new int[] {-1, 42, Integer.MIN_VALUE, Integer.MAX_VALUE}) {
            index(() -> site.ofCell(cell, 0));
            index(() -> site.ofCell(cell, 5));
        }
        for (int what : new int[] {-1, 5, Integer.MIN_VALUE, Integer.MAX_VALUE}) {
            argument(() -> site.ofCell(41, what));
        }
        is(0, site.ofCell(41, 0));
    }

    private static void promise16Would() {
        Slewyard site = withALoad(60, 20);
        is("6 6 6 1 0 6 0", wouldAll(site, 0));
        steps(site, 0, 4, 1);
        is("0 0 0 1 0 0 0", wouldAll(site, 0));
        site.zone(57, 1, 1, 0, 0);
        site.level(46, 1);
        is("0 6 5 1 0 0 0", wouldAll(site, 0));
        site.wind(0, 9, 0);
        is("2 2 2 1 2 2 0", wouldAll(site, 0));
        is("3 3 0", row(site.many(1), site.many(10), site.many(11)));
        Slewyard worn = tenByTen();
        worn.crane(55, 10, 3, 60, 2);
        steps(worn, 0, 0, 30);
        is("3 3 3 1 1 3 0", wouldAll(worn, 0));
        for (int k = 0; k < 5; k++) {
            worn.rest(100);
        }
        worn.rest(69);
        is("3 3 3 1 1 3 0", wouldAll(worn, 0));
        worn.rest(1);
        is("-1 -1 -1 -1 -1 -1 -1", wouldAll(worn, 0));
        Slewyard clash = clashing();
        is("0 0 0 1 1 0 0", wouldAll(clash, 0));
        steps(clash, 0, 0, 1);
        is("0 7 0 1 1 0 0", wouldAll(clash, 0));
    }

    private static void promise16Bounds() {
        Slewyard site = tenByTen();
        site.crane(55, 4, 3, 61, 2);
        index(() -> site.would(1, 0));
        for (int crane : FAR_OFF) {
            index(() -> site.would(crane, 0));
            index(() -> site.would(crane, 7));
        }
        for (int k = 0; k < 6; k++) {
            for (int motion : new int[] {-1, 7, Integer.MIN_VALUE, Integer.MAX_VALUE}) {
                argument(() -> site.would(0, motion));
            }
            site.rest(100);
        }
        argument(() -> site.would(0, 7));
        is(-1, site.would(0, 6));
    }

    /** A high CRANE at the edge that the WIND can not turn, and a low one that turns to it; the other numbers too. */
    private static Slewyard underAHook(int bearing, int down, boolean isLowFirst) {
        Slewyard site = tenByTen();
        int high = isLowFirst ? 1 : 0;
        if (isLowFirst) {
            site.crane(45, 4, 3, 60, 4);
        }
        is(high, site.crane(5, 10, 3, 60, bearing));
        if (!isLowFirst) {
            site.crane(45, 4, 3, 60, 4);
        }
        steps(site, high, 5, down);
        site.wind(0, 8, 0);
        is(1, site.rest(1));
        return site;
    }

    private static void promise17EachRule() {
        Slewyard jibs = clashing();
        is("1 1 1", row(jibs.clash(0, 1), jibs.clash(1, 0), jibs.many(8)));
        is(0, jibs.step(0, 0));
        is("0 0 0", row(jibs.clash(0, 1), jibs.clash(1, 0), jibs.many(8)));
        for (boolean isLowFirst : new boolean[] {true, false}) {
            Slewyard hook = underAHook(2, 4, isLowFirst);
            is("2 2 1", row(hook.clash(0, 1), hook.clash(1, 0), hook.many(8)));
            Slewyard tower = underAHook(2, 3, isLowFirst);
            is("3 3 1", row(tower.clash(0, 1), tower.clash(1, 0), tower.many(8)));
        }
        Slewyard three = clashing();
        is(2, three.crane(99, 10, 2, 60, 0));
        is("0 0 1", row(three.clash(0, 2), three.clash(2, 1), three.many(8)));
        three.wind(2, 8, 6);
        three.rest(1);
        is("1 0 1", row(three.clash(0, 1), three.clash(1, 2), three.many(8)));
    }

    private static void promise17Bounds() {
        Slewyard site = clashing();
        for (int crane : new int[] {-1, 2, 4, Integer.MIN_VALUE, Integer.MAX_VALUE}) {
            index(() -> site.clash(crane, 0));
            index(() -> site.clash(0, crane));
            index(() -> site.clash(crane, crane));
        }
        argument(() -> site.clash(0, 0));
        argument(() -> site.clash(1, 1));
    }

    // ---- promises 18 to 20

    private static String ways(Slewyard site, int crane, int... cells) {
        int[] ways = new int[cells.length];
        for (int k = 0; k < cells.length; k++) {
            ways[k] = site.way(crane, cells[k]);
        }
        return row(ways);
    }

    private static void promise18And19Alone() {
        Slewyard site = tenByTen();
        site.crane(55, 10, 2, 100, 0);
        is("0 1 1 2 2 3 4 3 2 1", ways(site, 0, 45, 35, 46, 37, 56, 66, 65, 64, 54, 44));
        is("3 4 5 4 3 2", ways(site, 0, 57, 77, 75, 73, 53, 33));
        is("-1 -1 -1 -1 -1", ways(site, 0, 55, 36, 25, 0, 99));
        is(16, site.field(0));
        steps(site, 0, 2, 1);
        is("1 0 2 1 5 4", ways(site, 0, 45, 35, 46, 37, 65, 75));
        is(16, site.field(0));
        steps(site, 0, 5, 8);
        is(16, site.field(0));
        site.wind(0, 9, 2);
        is("1 4 16", row(site.way(0, 45), site.way(0, 75), site.field(0)));
        site.wind(0, 0, 0);
        steps(site, 0, 0, 21);
        is("30 3", row(site.ofCrane(0, 8), site.would(0, 0)));
        is("0 4 16", row(site.way(0, 73), site.way(0, 37), site.field(0)));
        for (int k = 0; k < 5; k++) {
            site.rest(100);
        }
        site.rest(70);
        is("600 0 4 16", row(site.many(1), site.way(0, 73), site.way(0, 37), site.field(0)));
    }

    private static void promise18And19BuildingAndEdges() {
        Slewyard site = tenByTen();
        site.crane(55, 10, 2, 100, 0);
        site.level(46, 9);
        is("-1 2 4", ways(site, 0, 46, 37, 56));
        is(15, site.field(0));
        site.level(37, 8);
        is(2, site.way(0, 37));
        site.level(37, 9);
        is("-1 6 7 0", ways(site, 0, 37, 56, 57, 45));
        is(14, site.field(0));
        site.level(44, 20);
        site.level(33, 20);
        is("0 1 -1 2", row(site.way(0, 45), site.way(0, 35), site.way(0, 54), site.field(0)));
        site.level(35, 20);
        is("-1 1", row(site.way(0, 35), site.field(0)));
        Slewyard corner = tenByTen();
        corner.crane(0, 10, 9, 100, 2);
        is(27, corner.field(0));
        is("0 1 9 8 8 10", ways(corner, 0, 1, 11, 99, 88, 9, 90));
        Slewyard small = new Slewyard();
        small.yard(6, 6);
        small.crane(7, 10, 2, 100, 2);
        is("11 -1 3", row(small.field(0), small.way(0, 5), small.way(0, 0)));
    }

    private static void promise18And19WithALoad() {
        Slewyard site = withALoad(30, 12);
        is("1 0 -1", row(site.field(0), site.way(0, 56), site.way(0, 66)));
        steps(site, 0, 4, 1);
        is("16 1 -1 1", row(site.field(0), site.way(0, 57), site.way(0, 58), site.way(0, 66)));
        site.zone(57, 1, 1, 0, 0);
        is("15 -1", row(site.field(0), site.way(0, 57)));
        site.level(45, 1);
        is("14 -1 3", row(site.field(0), site.way(0, 45), site.way(0, 35)));
        site.wind(0, 6, 0);
        is("7 -1 5", row(site.field(0), site.way(0, 35), site.way(0, 44)));
        site.wind(0, 0, 0);
        is(14, site.field(0));
        site.rest(20);
        is("15 1", row(site.field(0), site.way(0, 57)));
        site.wind(0, 9, 7);
        is("20 7", row(site.ofCrane(0, 11), site.field(0)));
    }

    private static void promise18And19Clashes() {
        Slewyard site = tenByTen();
        site.crane(52, 10, 2, 60, 6);
        site.crane(55, 10, 2, 60, 2);
        is("14 14", row(site.field(0), site.field(1)));
        is("-1 -1 0 3", ways(site, 0, 53, 54, 51, 43));
        is("-1 0 3", ways(site, 1, 54, 56, 44));
        Slewyard already = clashing();
        is("16 0 1 4", row(already.field(0), already.way(0, 53), already.way(0, 54), already.way(0, 51)));
        is(2, already.crane(33, 10, 2, 60, 0));
        is(7, already.would(0, 1));
        is(0, already.clash(0, 2));
        is("-1 -1 5 4", ways(already, 0, 43, 42, 41, 51));
    }

    private static void promise18And19Bounds() {
        Slewyard site = tenByTen();
        site.crane(55, 10, 2, 100, 0);
        index(() -> site.way(1, 0));
        index(() -> site.field(1));
        for (int crane : FAR_OFF) {
            index(() -> site.way(crane, 0));
            index(() -> site.way(crane, 100));
            index(() -> site.field(crane));
        }
        for (int cell : new int[] {-1, 100, Integer.MIN_VALUE, Integer.MAX_VALUE}) {
            index(() -> site.way(0, cell));
        }
    }

    private static void promise20Swing() {
        Slewyard site = tenByTen();
        site.crane(55, 10, 5, 100, 0);
        is("7 7", row(site.swing(0, false), site.swing(0, true)));
        site.wind(0, 9, 0);
        is("7 7", row(site.swing(0, false), site.swing(0, true)));
        site.wind(0, 0, 0);
        steps(site, 0, 2, 4);
        is(5, site.ofCrane(0, 10));
        is("0 2", row(site.swing(0, false), site.swing(0, true)));
        Slewyard corner = tenByTen();
        corner.crane(10, 10, 2, 100, 2);
        is("2 2", row(corner.swing(0, false), corner.swing(0, true)));
        steps(corner, 0, 0, 1);
        is("1 3", row(corner.swing(0, false), corner.swing(0, true)));
        Slewyard late = tenByTen();
        late.crane(55, 10, 5, 100, 0);
        for (int k = 0; k < 6; k++) {
            late.rest(100);
        }
        is("7 7", row(late.swing(0, false), late.swing(0, true)));
    }

    private static void promise20WhatStopsIt() {
        Slewyard site = tenByTen();
        site.crane(55, 10, 3, 100, 2);
        site.level(65, 9);
        is("1 5", row(site.swing(0, false), site.swing(0, true)));
        steps(site, 0, 2, 1);
        is("7 7", row(site.swing(0, false), site.swing(0, true)));
        Slewyard load = withALoad(24, 20);
        is("0 0", row(load.swing(0, false), load.swing(0, true)));
        steps(load, 0, 4, 1);
        is("7 7", row(load.swing(0, false), load.swing(0, true)));
        load.zone(64, 1, 1, 0, 0);
        is("2 4", row(load.swing(0, false), load.swing(0, true)));
        load.level(45, 1);
        is("2 1", row(load.swing(0, false), load.swing(0, true)));
        load.wind(0, 7, 0);
        is("0 0", row(load.swing(0, false), load.swing(0, true)));
        load.wind(0, 6, 0);
        is("2 1", row(load.swing(0, false), load.swing(0, true)));
        Slewyard two = tenByTen();
        two.crane(52, 10, 2, 60, 6);
        two.crane(55, 10, 2, 60, 2);
        is("3 3", row(two.swing(0, false), two.swing(0, true)));
        Slewyard already = clashing();
        is("7 7", row(already.swing(0, false), already.swing(0, true)));
        already.crane(33, 10, 2, 60, 0);
        is("5 0", row(already.swing(0, false), already.swing(0, true)));
        steps(two, 0, 5, 8);
        steps(two, 0, 4, 8);
        steps(two, 0, 5, 8);
        steps(two, 0, 4, 6);
        is("30 3 3", row(two.ofCrane(0, 8), two.swing(0, false), two.swing(0, true)));
    }

    private static void promise20Bounds() {
        Slewyard site = tenByTen();
        site.crane(55, 10, 2, 100, 0);
        index(() -> site.swing(1, true));
        for (int crane : FAR_OFF) {
            index(() -> site.swing(crane, false));
            index(() -> site.swing(crane, true));
        }
    }

    // ---- promises 21 to 26

    private static String order(Slewyard site) {
        return row(site.order(0), site.order(1), site.order(2), site.order(3), site.order(4), site.many(13));
    }

    private static void promise21Order() {
        for (int mast = 7; mast <= 10; mast++) {
            Slewyard site = tenByTen();
            site.crane(55, mast, 2, 5, 2);
            is(mast <= 8 ? "0 -1 -1 -1 -1 1" : "-1 -1 -1 -1 -1 0", order(site));
        }
        for (int moment = 35; moment <= 37; moment++) {
            for (int mast = 9; mast <= 11; mast++) {
                Slewyard site = tenByTen();
                site.crane(44, 10, 2, 5, 6);
                site.crane(47, mast, 3, moment, 2);
                is(mast >= 10 && moment >= 36 ? "0 -1 -1 -1 -1 1" : "-1 -1 -1 -1 -1 0", order(site));
                site.wind(0, 5, 0);
                is("-1 -1 -1 -1 -1 0", order(site));
            }
        }
        Slewyard askew = tenByTen();
        askew.crane(44, 10, 2, 5, 6);
        askew.crane(57, 10, 9, 400, 2);
        is("-1 -1 -1 -1 -1 0", order(askew));
        Slewyard slant = tenByTen();
        slant.crane(44, 10, 2, 5, 6);
        slant.crane(77, 10, 3, 36, 2);
        is("0 -1 -1 -1 -1 1", order(slant));
        Slewyard shortOne = tenByTen();
        shortOne.crane(44, 10, 2, 5, 6);
        shortOne.crane(77, 10, 2, 400, 2);
        is("-1 -1 -1 -1 -1 0", order(shortOne));
    }

    private static void promise21WhoIsThereStill() {
        Slewyard mutual = tenByTen();
        mutual.crane(44, 10, 3, 400, 6);
        mutual.crane(47, 10, 3, 400, 2);
        is("0 -1 -1 -1 -1 1", order(mutual));
        Slewyard line = tenByTen();
        line.crane(11, 20, 3, 400, 0);
        line.crane(14, 8, 2, 5, 0);
        line.crane(41, 20, 3, 400, 4);
        is("0 1 -1 -1 -1 2", order(line));
        Slewyard first = tenByTen();
        first.crane(11, 20, 3, 5, 0);
        first.crane(14, 25, 3, 400, 0);
        first.crane(44, 28, 3, 400, 4);
        is("0 1 -1 -1 -1 2", order(first));
        Slewyard last = tenByTen();
        last.crane(44, 28, 3, 400, 4);
        last.crane(14, 25, 3, 400, 0);
        last.crane(11, 20, 3, 5, 0);
        is("1 2 -1 -1 -1 2", order(last));
        Slewyard chain = tenByTen();
        chain.crane(14, 25, 3, 400, 0);
        chain.crane(11, 20, 3, 5, 0);
        chain.crane(17, 28, 3, 400, 0);
        is("0 -1 -1 -1 -1 1", order(chain));
        Slewyard all = tenByTen();
        all.crane(0, 3, 2, 5, 2);
        all.crane(9, 3, 2, 5, 6);
        all.crane(90, 3, 2, 5, 2);
        all.crane(99, 8, 2, 5, 6);
        is("0 1 2 3 -1 4", order(all));
    }

    private static void promise21Bounds() {
        Slewyard site = new Slewyard();
        argument(() -> site.order(-1));
        argument(() -> site.order(Integer.MIN_VALUE));
        is(-1, site.order(0));
        site.yard(10, 10);
        site.crane(55, 3, 2, 5, 2);
        argument(() -> site.order(-1));
        is("0 -1", row(site.order(0), site.order(Integer.MAX_VALUE)));
    }

    private static void promise22Many() {
        Slewyard site = clashing();
        is("100 1 0 2 0 0 0 0 1 0 0 0 0 0 0", many(site));
        site.zone(0, 1, 1, 0, 0);
        site.zone(0, 1, 1, 0, 0);
        site.load(53, 1);
        site.load(0, 1);
        site.load(1, 1);
        site.wind(1, 4, 5);
        is("100 1 0 2 3 2 4 5 1 0 0 0 0 0 0", many(site));
        steps(site, 0, 5, 8);
        is(0, site.hang(0));
        is(1, site.step(0, 3));
        is(6, site.step(0, 5));
        is("100 9 0 2 3 2 4 5 1 0 8 2 1 0 0", many(site));
        site.crane(99, 8, 2, 60, 6);
        site.rest(100);
        site.knock();
        steps(site, 0, 4, 1);
        steps(site, 0, 0, 1);
        steps(site, 0, 6, 1);
        is("100 112 5 3 3 2 4 5 0 1 11 2 1 1 1", many(site));
        is(1, site.ofCrane(0, 14));
        site.rest(100);
        site.rest(100);
        site.rest(100);
        site.rest(67);
        is("479 23", row(site.many(1), site.many(2)));
        site.rest(1);
        is("480 0", row(site.many(1), site.many(2)));
    }

    private static void promise22Bounds() {
        Slewyard site = new Slewyard();
        for (int what : new int[] {-1, 15, Integer.MIN_VALUE, Integer.MAX_VALUE}) {
            argument(() -> site.many(what));
        }
    }

    private static void promise23Drawn() {
        Slewyard site = tenByTen();
        site.crane(51, 20, 6, 60, 2);
        site.crane(53, 6, 2, 60, 0);
        steps(site, 0, 2, 1);
        is(".0=1====..", site.drawn(5));
        steps(site, 0, 2, 1);
        is(".0=1v===..", site.drawn(5));
        is("...v......", site.drawn(4));
        is("...=......", site.drawn(3));
        is("..........", site.drawn(2));
        site.level(54, 2);
        site.level(55, 2);
        site.load(54, 1);
        site.load(55, 1);
        site.load(56, 1);
        is(".0=1v===..", site.drawn(5));
        site.level(60, 1);
        site.load(60, 1);
        site.load(61, 1);
        site.level(62, 20);
        is("#*#.......", site.drawn(6));
        Slewyard four = new Slewyard();
        four.yard(14, 6);
        four.crane(0, 3, 2, 5, 2);
        four.crane(13, 3, 2, 5, 6);
        four.crane(70, 3, 2, 5, 2);
        four.crane(83, 3, 2, 5, 6);
        is("0v=........=v1", four.drawn(0));
        is("2v=........=v3", four.drawn(5));
        is("..............", four.drawn(1));
        Slewyard hung = withALoad(60, 20);
        is(".....0v==.", hung.drawn(5));
        steps(hung, 0, 4, 1);
        steps(hung, 0, 0, 1);
        is(".....0....", hung.drawn(5));
        is("......v...", hung.drawn(6));
    }

    private static void promise23Bounds() {
        Slewyard site = new Slewyard();
        index(() -> site.drawn(0));
        site.yard(12, 7);
        is("............", site.drawn(6));
        for (int row : new int[] {-1, 7, 12, Integer.MIN_VALUE, Integer.MAX_VALUE}) {
            index(() -> site.drawn(row));
        }
    }

    private static void promise24IsSound() {
        Slewyard site = new Slewyard();
        is(true, site.isSound());
        site.yard(10, 10);
        is(true, site.isSound());
        is(true, clashing().isSound());
        Slewyard load = withALoad(60, 20);
        is(true, load.isSound());
        steps(load, 0, 4, 1);
        for (int k = 0; k < 10; k++) {
            steps(load, 0, 0, 1);
            is(true, load.isSound());
        }
        load.level(1, 20);
        load.load(1, 1);
        is(true, load.isSound());
        Slewyard edge = tenByTen();
        edge.crane(11, 3, 2, 60, 7);
        is("0 true", row(edge.ofCrane(0, 10)) + " " + edge.isSound());
        is(11, edge.field(0));
        is("0 1 1 4", ways(edge, 0, 0, 1, 10, 13));
        steps(edge, 0, 0, 3);
        steps(edge, 0, 2, 1);
        is("2 13 true", row(edge.ofCrane(0, 5), edge.ofCrane(0, 10)) + " " + edge.isSound());
    }

    private static void promise25Knock() {
        Slewyard site = new Slewyard();
        is(1, site.knock());
        is(2, site.knock());
        is(2, site.many(14));
        site.yard(10, 10);
        is(2, site.many(14));
        is(3, site.knock());
        argument(() -> site.yard(1, 1));
        is(4, site.knock());
        is("100 0 0 0 0 0 0 0 0 0 0 0 0 0 4", many(site));
    }

    private static void promise26Digest() {
        Slewyard site = new Slewyard();
        is(summed(site), site.digest());
        Slewyard clash = clashing();
        is(summed(clash), clash.digest());
        Slewyard busy = busy();
        is(summed(busy), busy.digest());
        is(busy.digest(), busy.digest());
        busy.knock();
        is(summed(busy), busy.digest());
    }

    private static Slewyard busy() {
        Slewyard site = withALoad(60, 20);
        site.crane(11, 10, 4, 90, 2);
        site.crane(82, 20, 3, 60, 1);
        site.load(20, 3);
        site.load(21, 3);
        site.zone(33, 3, 3, 0, 23);
        site.level(44, 2);
        site.level(72, 5);
        steps(site, 0, 4, 1);
        steps(site, 0, 0, 1);
        site.wind(0, 5, 3);
        return site;
    }

    private static void whatIsAskedChangesNothing() {
        Slewyard site = busy();
        Slewyard same = busy();
        is(summed(site), same.digest());
        for (int cell = 0; cell < 100; cell++) {
            site.way(1, cell);
        }
        site.clash(0, 1);
        site.order(0);
        for (int row = 0; row < 10; row++) {
            is(same.drawn(row), site.drawn(row));
        }
        is(same.digest(), site.digest());
        is("0 0 0", row(site.step(1, 0), site.step(2, 1), site.step(0, 1)));
        is("0 0 0", row(same.step(1, 0), same.step(2, 1), same.step(0, 1)));
        is(same.digest(), site.digest());
    }

    private static void whatThrowsChangesNothing() {
        Slewyard site = busy();
        long before = site.digest();
        argument(() -> site.yard(5, 5));
        state(() -> site.level(55, 1));
        argument(() -> site.level(54, 21));
        argument(() -> site.wind(0, 10, 0));
        argument(() -> site.zone(99, 2, 2, 0, 0));
        state(() -> site.load(55, 1));
        argument(() -> site.load(54, 61));
        state(() -> site.crane(12, 10, 3, 60, 2));
        argument(() -> site.crane(12, 31, 3, 60, 2));
        index(() -> site.step(3, 0));
        argument(() -> site.step(0, 7));
        index(() -> site.hang(3));
        index(() -> site.set(3));
        argument(() -> site.hand(0, 0));
        argument(() -> site.rest(0));
        index(() -> site.way(0, 100));
        argument(() -> site.order(-1));
        is(before, site.digest());
    }
}
