/** Promises 1 to 6: a new object, and what is told of the yard. A YARD of 10 x 10 has ROW and COLUMN as digits. */
final class YardTest extends Scenes {
    private static final String NOTHING = "0 0 0 0 0 0 0 0 0 0 0 0 0 0 0";

    public static void main(String[] args) {
        promise1AnObjectWithoutAYard();
        promise1ObjectsShareNothing();
        promise2Sizes();
        promise2AllElseIsGone();
        promise2ARefusedYardLeavesTheOldOne();
        promise3LevelsAndBounds();
        promise3WhatStandsInTheWay();
        promise3HooksWithAndWithoutALoad();
        promise4TheLatestThatIsNotLaterHolds();
        promise4Bounds();
        promise5Bounds();
        promise5Cells();
        promise5Hours();
        promise6Loads();
        promise6Bounds();
        end("YardTest");
    }

    private static void promise1AnObjectWithoutAYard() {
        Slewyard site = new Slewyard();
        is(NOTHING, many(site));
        is(true, site.isSound());
        long sum = 8821;
        for (int k = 0; k < 15; k++) {
            sum *= 31;
        }
        is(sum * 31 + 1, site.digest());
        index(() -> site.level(0, 0));
        index(() -> site.zone(0, 1, 1, 0, 0));
        index(() -> site.load(0, 1));
        index(() -> site.crane(0, 10, 3, 60, 2));
        index(() -> site.ofCell(0, 0));
        index(() -> site.drawn(0));
        is(-1, site.order(0));
        is(1, site.wind(50, 3, 7));
        is(0, site.rest(50));
        is("0 50 2 0 0 0 3 7 0 0 0 0 0 0 0", many(site));
        is(1, site.knock());
    }

    private static void promise1ObjectsShareNothing() {
        Slewyard one = tenByTen();
        Slewyard other = new Slewyard();
        one.crane(55, 10, 3, 60, 2);
        one.knock();
        is(NOTHING, many(other));
        is(1, other.knock());
        index(() -> other.ofCrane(0, 0));
    }

    private static void promise2Sizes() {
        Slewyard site = new Slewyard();
        is(36, site.yard(6, 6));
        is(196, site.yard(14, 14));
        is(84, site.yard(6, 14));
        is("......", site.drawn(13));
        is(84, site.yard(14, 6));
        is("..............", site.drawn(5));
        is(84, site.many(0));
        for (int wrong : new int[] {5, 15, 0, -6, Integer.MIN_VALUE, Integer.MAX_VALUE}) {
            argument(() -> site.yard(wrong, 6));
            argument(() -> site.yard(6, wrong));
        }
        is(84, site.many(0));
    }

    private static void promise2AllElseIsGone() {
        Slewyard site = tenByTen();
        site.level(0, 7);
        site.wind(0, 6, 5);
        site.zone(0, 10, 10, 0, 23);
        site.crane(52, 5, 2, 60, 6);
        site.crane(56, 5, 2, 60, 6);
        site.load(51, 5);
        steps(site, 0, 5, 3);
        is(0, site.hang(0));
        is(1, site.step(0, 3));
        site.rest(20);
        site.knock();
        site.knock();
        is("100 23 1 2 1 1 6 5 0 3 3 1 1 2 2", many(site));
        is(100, site.yard(10, 10));
        is("100 0 0 0 0 0 0 0 0 0 0 0 0 0 2", many(site));
        is(0, site.ofCell(0, 0));
        is(0, site.ofCell(0, 4));
        index(() -> site.ofCrane(0, 0));
        index(() -> site.ofLoad(0, 0));
        is(0, site.crane(52, 5, 2, 60, 6));
        is("52 5 2 60 6 1 4 0 0 -1 51 60 3 0 0", ofCrane(site, 0, 0, 14));
        is(0, site.load(51, 5));
        is("51 -1", row(site.ofLoad(0, 1), site.ofLoad(0, 2)));
        is(0, site.zone(0, 1, 1, 0, 0));
        is(1, site.wind(0, 1, 1));
    }

    private static void promise2ARefusedYardLeavesTheOldOne() {
        Slewyard site = tenByTen();
        site.crane(55, 10, 3, 60, 2);
        site.rest(7);
        long before = site.digest();
        argument(() -> site.yard(6, 15));
        argument(() -> site.yard(5, 6));
        is(before, site.digest());
    }

    private static void promise3LevelsAndBounds() {
        Slewyard site = tenByTen();
        is(0, site.level(55, 20));
        is(20, site.level(55, 3));
        is(3, site.level(55, 0));
        is(0, site.level(0, 1));
        is(0, site.level(99, 2));
        is("1 0 2", row(site.ofCell(0, 0), site.ofCell(55, 0), site.ofCell(99, 0)));
        for (int cell : new int[] {-1, 100, Integer.MIN_VALUE, Integer.MAX_VALUE}) {
            index(() -> site.level(cell, 0));
            index(() -> site.level(cell, 21));
        }
        for (int level : new int[] {-1, 21, Integer.MIN_VALUE, Integer.MAX_VALUE}) {
            argument(() -> site.level(99, level));
        }
        is(2, site.ofCell(99, 0));
    }

    private static void promise3WhatStandsInTheWay() {
        Slewyard site = tenByTen();
        site.crane(44, 10, 3, 60, 2);
        site.load(20, 5);
        state(() -> site.level(44, 0));
        state(() -> site.level(44, 1));
        state(() -> site.level(20, 0));
        state(() -> site.level(20, 1));
        argument(() -> site.level(44, 21));
        argument(() -> site.level(20, -1));
        is("0 0", row(site.ofCell(44, 0), site.ofCell(20, 0)));
    }

    private static void promise3HooksWithAndWithoutALoad() {
        Slewyard site = tenByTen();
        site.crane(44, 10, 3, 60, 2);
        state(() -> site.level(45, 9));
        state(() -> site.level(45, 20));
        is(0, site.level(45, 8));
        is(8, site.level(45, 0));
        is(0, site.level(46, 20));
        site.crane(71, 4, 2, 60, 2);
        site.load(72, 5);
        steps(site, 1, 5, 2);
        is(0, site.hang(1));
        state(() -> site.level(72, 0));
        steps(site, 1, 4, 1);
        state(() -> site.level(72, 1));
        is(0, site.level(72, 0));
        steps(site, 1, 4, 1);
        state(() -> site.level(72, 2));
        is(0, site.level(72, 1));
        is(1, site.ofCell(72, 0));
    }

    private static void promise4TheLatestThatIsNotLaterHolds() {
        Slewyard site = tenByTen();
        is(1, site.wind(10, 5, 1));
        is(2, site.wind(5, 6, 2));
        is("0 0", row(site.many(6), site.many(7)));
        site.rest(4);
        is("0 0", row(site.many(6), site.many(7)));
        site.rest(1);
        is("6 2", row(site.many(6), site.many(7)));
        site.rest(4);
        is("6 2", row(site.many(6), site.many(7)));
        site.rest(1);
        is("5 1", row(site.many(6), site.many(7)));
        is(3, site.wind(10, 4, 4));
        is("4 4", row(site.many(6), site.many(7)));
        is(4, site.wind(9, 3, 3));
        is(5, site.wind(11, 2, 2));
        is("4 4", row(site.many(6), site.many(7)));
        is(6, site.wind(10, 0, 7));
        is("0 7", row(site.many(6), site.many(7)));
    }

    private static void promise4Bounds() {
        Slewyard site = tenByTen();
        for (int wrong : new int[] {-1, 601, Integer.MIN_VALUE, Integer.MAX_VALUE}) {
            argument(() -> site.wind(wrong, 0, 0));
        }
        for (int wrong : new int[] {-1, 10, Integer.MIN_VALUE, Integer.MAX_VALUE}) {
            argument(() -> site.wind(0, wrong, 0));
        }
        for (int wrong : new int[] {-1, 8, Integer.MIN_VALUE, Integer.MAX_VALUE}) {
            argument(() -> site.wind(0, 0, wrong));
        }
        is(1, site.wind(600, 9, 7));
        is(2, site.wind(0, 9, 7));
        for (int k = 3; k <= 12; k++) {
            is(k, site.wind(0, k % 10, 0));
        }
        state(() -> site.wind(0, 9, 0));
        argument(() -> site.wind(601, 9, 0));
        argument(() -> site.wind(0, 10, 0));
        argument(() -> site.wind(0, 0, 8));
        is(2, site.many(6));
    }

    private static void promise5Bounds() {
        Slewyard site = tenByTen();
        for (int cell : new int[] {-1, 100, Integer.MIN_VALUE, Integer.MAX_VALUE}) {
            index(() -> site.zone(cell, 1, 1, 0, 0));
            index(() -> site.zone(cell, 0, 0, -1, 24));
        }
        for (int wrong : new int[] {0, -1, 8, Integer.MIN_VALUE, Integer.MAX_VALUE}) {
            argument(() -> site.zone(33, wrong, 1, 0, 0));
            argument(() -> site.zone(33, 1, wrong, 0, 0));
        }
        for (int wrong : new int[] {-1, 24, Integer.MIN_VALUE, Integer.MAX_VALUE}) {
            argument(() -> site.zone(33, 1, 1, wrong, 0));
            argument(() -> site.zone(33, 1, 1, 0, wrong));
        }
        is(0, site.zone(0, 10, 10, 23, 0));
        is(1, site.zone(33, 7, 7, 0, 23));
        is(2, site.zone(99, 1, 1, 5, 5));
        is(3, site.many(5));
        is(3, site.zone(90, 10, 1, 6, 5));
        state(() -> site.zone(0, 1, 1, 0, 0));
        argument(() -> site.zone(99, 2, 1, 0, 0));
        argument(() -> site.zone(99, 1, 2, 0, 0));
        argument(() -> site.zone(0, 1, 1, 24, 0));
        is(4, site.many(5));
    }

    private static void promise5Cells() {
        Slewyard site = new Slewyard();
        site.yard(10, 8);
        site.zone(23, 3, 2, 0, 0);
        site.zone(79, 1, 1, 0, 0);
        for (int cell = 0; cell < 80; cell++) {
            boolean isIn = cell >= 23 && cell <= 25 || cell >= 33 && cell <= 35 || cell == 79;
            is(isIn ? 1 : 0, site.ofCell(cell, 4));
        }
    }

    private static void promise5Hours() {
        Slewyard site = tenByTen();
        site.zone(0, 1, 1, 2, 4);
        site.zone(1, 1, 1, 23, 1);
        site.zone(2, 1, 1, 5, 5);
        site.zone(3, 1, 1, 5, 4);
        for (int time = 0; time <= 600; time += 10) {
            int hour = time / 20 % 24;
            is(row(hour, hour >= 2 && hour <= 4 ? 1 : 0, hour == 23 || hour <= 1 ? 1 : 0, hour == 5 ? 1 : 0, 1, 0),
                row(site.many(2), site.ofCell(0, 4), site.ofCell(1, 4), site.ofCell(2, 4), site.ofCell(3, 4),
                    site.ofCell(4, 4)));
            if (time < 600) {
                site.rest(9);
                is((time + 9) / 20 % 24, site.many(2));
                site.rest(1);
            }
        }
        is("600 6", row(site.many(1), site.many(2)));
    }

    private static void promise6Loads() {
        Slewyard site = tenByTen();
        site.level(7, 4);
        is(0, site.load(0, 1));
        is(1, site.load(99, 60));
        is(2, site.load(99, 2));
        is(3, site.load(7, 30));
        is("1 0 -1", row(site.ofLoad(0, 0), site.ofLoad(0, 1), site.ofLoad(0, 2)));
        is("60 99 -1", row(site.ofLoad(1, 0), site.ofLoad(1, 1), site.ofLoad(1, 2)));
        is("2 99 -1", row(site.ofLoad(2, 0), site.ofLoad(2, 1), site.ofLoad(2, 2)));
        is("2 1 0 4", row(site.ofCell(99, 1), site.ofCell(7, 1), site.ofCell(8, 1), site.many(4)));
        for (int k = 4; k < 8; k++) {
            is(k, site.load(50, 9));
        }
        state(() -> site.load(50, 9));
        argument(() -> site.load(50, 61));
        index(() -> site.load(100, 9));
        is(8, site.many(4));
    }

    private static void promise6Bounds() {
        Slewyard site = tenByTen();
        site.crane(44, 10, 3, 60, 2);
        for (int cell : new int[] {-1, 100, Integer.MIN_VALUE, Integer.MAX_VALUE}) {
            index(() -> site.load(cell, 1));
            index(() -> site.load(cell, 0));
        }
        for (int weight : new int[] {0, 61, -1, Integer.MIN_VALUE, Integer.MAX_VALUE}) {
            argument(() -> site.load(0, weight));
            argument(() -> site.load(44, weight));
        }
        state(() -> site.load(44, 1));
        is(0, site.many(4));
        is(0, site.load(45, 1));
    }
}
