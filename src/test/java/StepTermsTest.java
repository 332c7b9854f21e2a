/** Sections 3 and 4: each sentence there that names a bound has a test of its own, in the document's order. */
final class StepTermsTest extends Scenes {
    public static void main(String[] args) {
        section3();
        section4();
        end("StepTermsTest");
    }

    // ---- section 3

    private static void section3() {
        reason1AtEachEdge();
        reason1OfRadiusAndHook();
        reason2From7On();
        reason3From30On();
        reason4AtTheRadiusThatItWouldHave();
        reason5OutOfAZoneAndIntoOne();
        reason6Hook0();
        reason6OneOrTwoAbove();
        reasonsInTheirOrder();
        aRestIsTakenWhateverElse();
        theHourIsThatAheadOfTheStep();
        theWindIsThatAheadOfTheStep();
        swayIs20AtMost();
        swayIs0AtLeast();
        nearMissesByApart();
        nearMissesOfTwoAtOnce();
        nearMissesNotOfRestsAndRefusals();
        nearMissesNotOfThoseThatClash();
    }

    /** Cell by cell, the trolley goes out just as far as the YARD does. */
    private static void reason1AtEachEdge() {
        for (int bearing = 0; bearing < 8; bearing++) {
            Slewyard site = new Slewyard();
            site.yard(9, 7);
            is(0, site.crane(30, 10, 9, 60, bearing));
            int cells = new int[] {3, 3, 5, 3, 3, 3, 3, 3}[bearing];
            steps(site, 0, 2, cells - 1);
            is(1, site.step(0, 2));
            is(cells, site.ofCrane(0, 5));
        }
        Slewyard corner = tenByTen();
        corner.crane(0, 10, 2, 60, 2);
        is(1, corner.step(0, 1));
        steps(corner, 0, 0, 2);
        is("4 1", row(corner.ofCrane(0, 4), corner.step(0, 0)));
    }

    private static void reason1OfRadiusAndHook() {
        Slewyard site = tenByTen();
        site.crane(55, 10, 2, 60, 2);
        is(1, site.step(0, 3));
        is(1, site.step(0, 4));
        steps(site, 0, 2, 1);
        is(1, site.step(0, 2));
        steps(site, 0, 5, 1);
        steps(site, 0, 4, 1);
        is(1, site.step(0, 4));
        is("2 9", ofCrane(site, 0, 5, 6));
    }

    private static void reason2From7On() {
        for (int force = 0; force <= 9; force++) {
            Slewyard site = tenByTen();
            site.crane(55, 10, 2, 60, 2);
            site.wind(0, force, 0);
            is(force <= 6 ? 0 : 2, site.step(0, 5));
            is(0, site.step(0, 6));
        }
    }

    private static void reason3From30On() {
        Slewyard site = tenByTen();
        site.crane(55, 10, 2, 60, 2);
        for (int work = 0; work < 30; work++) {
            is(row(work, 0), row(site.ofCrane(0, 8), site.step(0, work % 2 == 0 ? 5 : 4)));
        }
        is("30 3 30", row(site.ofCrane(0, 8), site.step(0, 5), site.ofCrane(0, 8)));
        is("0 0 0", row(site.step(0, 6), site.ofCrane(0, 8), site.step(0, 5)));
    }

    private static void reason4AtTheRadiusThatItWouldHave() {
        for (int weight = 19; weight <= 21; weight++) {
            Slewyard site = lifted(60, weight);
            steps(site, 0, 2, 1);
            is(weight <= 20 ? 0 : 4, site.step(0, 2));
        }
        Slewyard wind = lifted(60, 30);
        steps(wind, 0, 2, 1);
        wind.wind(0, 5, 0);
        is("4 4 4 0 4 4 0", wouldAll(wind, 0));
        is(0, wind.step(0, 3));
        is("0 0 4 1 0 0 0", wouldAll(wind, 0));
    }

    private static void reason5OutOfAZoneAndIntoOne() {
        Slewyard site = lifted(60, 5);
        site.zone(57, 1, 1, 0, 0);
        is("0 0 5 1 0 0 0", wouldAll(site, 0));
        site.zone(56, 1, 1, 0, 0);
        is("0 0 5 1 5 5 0", wouldAll(site, 0));
        Slewyard empty = tenByTen();
        empty.crane(55, 5, 3, 60, 2);
        empty.zone(0, 10, 10, 0, 0);
        is("0 0 0 1 1 0 0", wouldAll(empty, 0));
    }

    private static void reason6Hook0() {
        Slewyard site = tenByTen();
        site.crane(55, 3, 2, 60, 2);
        steps(site, 0, 5, 1);
        is("1 6", row(site.ofCrane(0, 6), site.step(0, 5)));
        is("1 0", row(site.ofCrane(0, 6), site.step(0, 2)));
    }

    private static void reason6OneOrTwoAbove() {
        for (int level = 0; level <= 6; level++) {
            Slewyard empty = tenByTen();
            empty.crane(55, 5, 3, 60, 2);
            empty.step(0, 5);
            empty.level(57, level);
            empty.level(66, level);
            is(level <= 2 ? "0 0" : "6 6", row(empty.would(0, 0), empty.would(0, 2)));
            Slewyard full = lifted(60, 5);
            full.level(57, level);
            full.level(66, level);
            is(level <= 1 ? "0 0" : "6 6", row(full.would(0, 0), full.would(0, 2)));
        }
        Slewyard down = lifted(60, 5);
        down.level(56, 1);
        is("0 2", row(down.step(0, 5), down.ofCrane(0, 6)));
        is("6 0", row(down.step(0, 5), down.step(0, 4)));
    }

    /** All of the reasons 2 to 7 hold against a swing; one behind the other is taken away. */
    private static void reasonsInTheirOrder() {
        Slewyard site = tenByTen();
        site.crane(55, 6, 2, 60, 2);
        site.crane(79, 6, 2, 60, 6);
        site.load(56, 29);
        steps(site, 0, 5, 4);
        is(0, site.hang(0));
        steps(site, 0, 4, 1);
        steps(site, 0, 2, 1);
        for (int k = 0; k < 12; k++) {
            steps(site, 0, 4, 1);
            steps(site, 0, 5, 1);
        }
        is("2 2 2 0 30", ofCrane(site, 0, 4, 8));
        site.zone(77, 1, 1, 1, 1);
        site.level(77, 1);
        site.wind(0, 7, 0);
        is("2 2 1 2 2 2 0", wouldAll(site, 0));
        is(2, site.step(0, 0));
        site.wind(0, 6, 0);
        is("3 3 1 3 3 3 0", wouldAll(site, 0));
        is(3, site.step(0, 0));
        is(0, site.step(0, 6));
        is("4 4 1 0 4 4 0", wouldAll(site, 0));
        is(4, site.step(0, 0));
        site.wind(0, 0, 0);
        is("5 0 1 0 0 0 0", wouldAll(site, 0));
        is(5, site.step(0, 0));
        pass(site, 40 - site.many(1));
        is("6 0 1 0 0 0 0", wouldAll(site, 0));
        is(6, site.step(0, 0));
        is(1, site.level(77, 0));
        is("7 0 1 0 0 0 0", wouldAll(site, 0));
        is(7, site.step(0, 0));
        steps(site, 1, 1, 2);
        is("0 0 1 0 0 0 0", wouldAll(site, 0));
        is(0, site.step(0, 0));
        is(6, site.many(11));
    }

    private static void aRestIsTakenWhateverElse() {
        Slewyard site = lifted(60, 60);
        for (int k = 0; k < 12; k++) {
            steps(site, 0, 4, 1);
            steps(site, 0, 5, 1);
        }
        steps(site, 0, 5, 1);
        is(30, site.ofCrane(0, 8));
        site.zone(0, 10, 10, 0, 23);
        site.wind(0, 9, 0);
        is("2 2 2 1 2 2 0", wouldAll(site, 0));
        is("0 0", row(site.step(0, 6), site.ofCrane(0, 8)));
        site.wind(0, 6, 0);
        is("4 4 4 1 4 4 0", wouldAll(site, 0));
        is("0 0", row(site.step(0, 6), site.ofCrane(0, 8)));
    }

    private static void theHourIsThatAheadOfTheStep() {
        Slewyard site = lifted(60, 5);
        site.zone(57, 1, 1, 1, 1);
        pass(site, 19 - site.many(1));
        is("0 20", row(site.step(0, 2), site.many(1)));
        is("5 5", row(site.step(0, 4), site.step(0, 5)));
        is(0, site.step(0, 3));
        is(5, site.step(0, 2));
        pass(site, 39 - site.many(1));
        is("5 39", row(site.step(0, 2), site.many(1)));
        pass(site, 1);
        is(0, site.step(0, 2));
    }

    private static void theWindIsThatAheadOfTheStep() {
        Slewyard site = tenByTen();
        site.crane(55, 10, 3, 60, 2);
        site.wind(1, 7, 0);
        site.wind(3, 6, 0);
        is("0 1 2 1", row(site.step(0, 2), site.many(1), site.step(0, 2), site.many(1)));
        is("0 2 2 2", row(site.step(0, 6), site.many(1), site.step(0, 2), site.many(1)));
        is("0 3 0 4", row(site.step(0, 6), site.many(1), site.step(0, 2), site.many(1)));
    }

    private static void swayIs20AtMost() {
        Slewyard empty = tenByTen();
        empty.crane(55, 10, 3, 60, 2);
        int[] by2 = {2, 4, 6, 8, 10, 12, 14, 16, 18, 20, 20, 20};
        for (int sway : by2) {
            is("0 " + sway, row(empty.step(0, 1), empty.ofCrane(0, 7)));
        }
        steps(empty, 0, 5, 1);
        is("19 0 20", row(empty.ofCrane(0, 7), empty.step(0, 0), empty.ofCrane(0, 7)));
        Slewyard full = lifted(60, 5);
        int[] by3 = {3, 6, 9, 12, 15, 18, 20, 20};
        for (int sway : by3) {
            is("0 " + sway, row(full.step(0, 0), full.ofCrane(0, 7)));
        }
    }

    private static void swayIs0AtLeast() {
        Slewyard site = tenByTen();
        site.crane(55, 10, 3, 60, 2);
        for (int motion : new int[] {2, 3, 5, 4, 6}) {
            is("0 0", row(site.step(0, motion), site.ofCrane(0, 7)));
        }
        steps(site, 0, 0, 1);
        int sway = 2;
        for (int motion : new int[] {2, 3, 5, 4, 6}) {
            sway = Math.max(0, sway - 1);
            is(row(0, sway), row(site.step(0, motion), site.ofCrane(0, 7)));
        }
        steps(site, 0, 0, 1);
        is("0 0", row(site.rest(3), site.ofCrane(0, 7)));
    }

    /** The JIB from 40 ends at 43; that from 49 is 4, 3 or 2 APART, by its REACH. */
    private static void nearMissesByApart() {
        for (int mast = 11; mast <= 19; mast++) {
            for (int reach = 2; reach <= 4; reach++) {
                Slewyard site = tenByTen();
                is(0, site.crane(40, 15, 3, 60, 2));
                is(1, site.crane(49, mast, reach, 60, 6));
                steps(site, 0, 2, 1);
                boolean isNear = reach == 4 && mast >= 13 && mast <= 17;
                is(isNear ? "1 0 1" : "0 0 0", row(site.ofCrane(0, 14), site.ofCrane(1, 14), site.many(9)));
            }
        }
    }

    private static void nearMissesOfTwoAtOnce() {
        Slewyard site = tenByTen();
        is(0, site.crane(44, 10, 2, 60, 2));
        is(1, site.crane(48, 10, 2, 60, 0));
        is(2, site.crane(64, 10, 2, 60, 4));
        is(3, site.crane(14, 10, 2, 60, 7));
        steps(site, 0, 2, 1);
        is("2 0 0 0 2", row(site.ofCrane(0, 14), site.ofCrane(1, 14), site.ofCrane(2, 14), site.ofCrane(3, 14),
            site.many(9)));
        steps(site, 1, 5, 1);
        steps(site, 2, 5, 1);
        steps(site, 3, 5, 1);
        is("2 1 1 0 4", row(site.ofCrane(0, 14), site.ofCrane(1, 14), site.ofCrane(2, 14), site.ofCrane(3, 14),
            site.many(9)));
    }

    private static void nearMissesNotOfRestsAndRefusals() {
        Slewyard site = tenByTen();
        is(0, site.crane(40, 15, 3, 60, 2));
        is(1, site.crane(49, 15, 4, 60, 6));
        is("0 1 0", row(site.step(0, 6), site.step(0, 3), site.many(9)));
        is("0 0", row(site.rest(5), site.many(9)));
        is("0 1", row(site.step(0, 2), site.many(9)));
        is("0 1 1", row(site.step(0, 6), site.step(0, 4), site.many(9)));
        is("0 2", row(site.step(0, 3), site.many(9)));
        site.yard(10, 10);
        is(0, site.many(9));
    }

    private static void nearMissesNotOfThoseThatClash() {
        Slewyard site = clashing();
        is("0 0 0", row(site.step(0, 2), site.step(1, 2), site.many(9)));
        is("0 0 1", row(site.step(0, 0), site.clash(0, 1), site.many(9)));
    }

    // ---- section 4

    private static void section4() {
        aWayHasNoStepsToWhereItIs();
        aWayGoesRoundTheShorterSide();
        aWayGoesToEachRadius();
        aWayFromTheLastRadius();
        aWayTakesTheHookAsItIs();
        aLiftIsNotFromItsTower();
        aLiftIsInAllBearingsUpToReach();
        aLiftTakesJustTheCapacity();
        takenDownByOneAsHigh();
        takenDownWithItsWholeWeight();
        takenDownWithAReachBeyondTheEdge();
        takenDownByItselfUpTo8();
        orderHasTheSmallestNumberFirst();
        orderHasOnlyThoseThatAreThereStill();
    }

    private static void aWayHasNoStepsToWhereItIs() {
        Slewyard site = lifted(60, 60);
        site.zone(0, 10, 10, 0, 23);
        site.wind(0, 9, 0);
        is("0 1", row(site.way(0, 56), site.field(0)));
        is("-1 -1 -1", row(site.way(0, 55), site.way(0, 66), site.way(0, 57)));
    }

    private static void aWayGoesRoundTheShorterSide() {
        Slewyard site = tenByTen();
        site.crane(55, 10, 3, 60, 7);
        int[] cells = {44, 45, 46, 56, 66, 65, 64, 54};
        int[] ways = {0, 1, 2, 3, 4, 3, 2, 1};
        for (int k = 0; k < cells.length; k++) {
            is(ways[k], site.way(0, cells[k]));
        }
        site.level(45, 20);
        site.level(35, 20);
        site.level(25, 20);
        int[] longWays = {0, -1, 6, 5, 4, 3, 2, 1};
        for (int k = 0; k < cells.length; k++) {
            is(longWays[k], site.way(0, cells[k]));
        }
    }

    private static void aWayGoesToEachRadius() {
        Slewyard site = new Slewyard();
        site.yard(14, 14);
        site.crane(90, 10, 9, 60, 2);
        is(51, site.field(0));
        is("0 6 -1 -1", row(site.way(0, 91), site.way(0, 97), site.way(0, 98), site.way(0, 90)));
        is("8 7 6 8 9", row(site.way(0, 188), site.way(0, 6), site.way(0, 12), site.way(0, 168), site.way(0, 84)));
    }

    private static void aWayFromTheLastRadius() {
        Slewyard site = new Slewyard();
        site.yard(14, 14);
        site.crane(0, 10, 9, 60, 2);
        steps(site, 0, 2, 8);
        is("9 27 2", row(site.ofCrane(0, 10), site.field(0), site.swing(0, false)));
        is("0 1 2 8", row(site.way(0, 9), site.way(0, 135), site.way(0, 126), site.way(0, 1)));
        is("9 10 -1 -1", row(site.way(0, 15), site.way(0, 14), site.way(0, 0), site.way(0, 10)));
        site.level(135, 9);
        is("0 2 4 -1 26", row(site.way(0, 9), site.way(0, 120), site.way(0, 126), site.way(0, 135), site.field(0)));
    }

    private static void aWayTakesTheHookAsItIs() {
        Slewyard site = tenByTen();
        site.crane(55, 10, 2, 60, 2);
        site.level(57, 8);
        is("1 16", row(site.way(0, 57), site.field(0)));
        steps(site, 0, 5, 1);
        is("-1 15", row(site.way(0, 57), site.field(0)));
    }

    private static void aLiftIsNotFromItsTower() {
        Slewyard site = tenByTen();
        site.crane(55, 20, 3, 400, 2);
        site.load(54, 1);
        is(1, site.ofLoad(0, 3));
        site.load(56, 1);
        steps(site, 0, 5, 18);
        is(1, site.hang(0));
        steps(site, 0, 4, 8);
        is(1, site.crane(57, 4, 2, 400, 2));
        steps(site, 0, 2, 1);
        is("57 1", row(site.ofLoad(1, 1), site.ofLoad(1, 3)));
    }

    private static void aLiftIsInAllBearingsUpToReach() {
        for (int cell = 0; cell < 100; cell++) {
            if (cell == 44) {
                continue;
            }
            Slewyard site = tenByTen();
            site.crane(44, 10, 3, 400, 0);
            site.load(cell, 1);
            int rows = Math.abs(cell / 10 - 4);
            int columns = Math.abs(cell % 10 - 4);
            boolean isOnAJib = rows <= 3 && columns <= 3 && (rows == 0 || columns == 0 || rows == columns);
            is(isOnAJib ? 1 : 0, site.ofLoad(0, 3));
        }
    }

    private static void aLiftTakesJustTheCapacity() {
        for (int weight = 14; weight <= 21; weight++) {
            Slewyard site = tenByTen();
            site.crane(55, 10, 3, 60, 2);
            site.load(58, weight);
            is(weight <= 20 ? 1 : 0, site.ofLoad(0, 3));
            site.wind(0, 6, 0);
            is(weight <= 16 ? 1 : 0, site.ofLoad(0, 3));
        }
    }

    private static void takenDownByOneAsHigh() {
        for (int mast = 9; mast <= 30; mast++) {
            Slewyard site = tenByTen();
            is(0, site.crane(44, 20, 2, 5, 6));
            is(1, site.crane(47, mast, 3, 400, 2));
            is(mast >= 20 ? "0 -1 1" : "-1 -1 0", row(site.order(0), site.order(1), site.many(13)));
        }
    }

    private static void takenDownWithItsWholeWeight() {
        for (int moment = 30; moment <= 42; moment++) {
            Slewyard site = tenByTen();
            is(0, site.crane(44, 10, 2, 5, 6));
            is(1, site.crane(47, 20, 3, moment, 2));
            is(moment >= 36 ? 1 : 0, site.many(13));
        }
    }

    private static void takenDownWithAReachBeyondTheEdge() {
        for (int moment = 40; moment <= 60; moment++) {
            Slewyard site = tenByTen();
            is(0, site.crane(44, 10, 9, 5, 6));
            is(1, site.crane(47, 20, 3, moment, 2));
            is(row(5, moment >= 57 ? 1 : 0), row(site.ofCrane(0, 12), site.many(13)));
        }
    }

    private static void takenDownByItselfUpTo8() {
        for (int mast = 3; mast <= 30; mast++) {
            Slewyard site = tenByTen();
            is(0, site.crane(44, mast, 2, 5, 6));
            is(mast <= 8 ? "0 -1 1" : "-1 -1 0", row(site.order(0), site.order(1), site.many(13)));
        }
    }

    private static void orderHasTheSmallestNumberFirst() {
        Slewyard site = tenByTen();
        is(0, site.crane(11, 20, 2, 5, 0));
        is(1, site.crane(18, 8, 2, 5, 0));
        is(2, site.crane(41, 20, 3, 400, 4));
        is(3, site.crane(88, 3, 2, 5, 4));
        is("0 1 3 -1 3", row(site.order(0), site.order(1), site.order(2), site.order(3), site.many(13)));
        Slewyard later = tenByTen();
        is(0, later.crane(88, 9, 2, 5, 4));
        is(1, later.crane(18, 8, 2, 5, 0));
        is(2, later.crane(11, 8, 2, 5, 0));
        is("1 2 -1 2", row(later.order(0), later.order(1), later.order(2), later.many(13)));
    }

    private static void orderHasOnlyThoseThatAreThereStill() {
        Slewyard site = tenByTen();
        is(0, site.crane(44, 8, 3, 400, 6));
        is(1, site.crane(47, 8, 3, 400, 2));
        is("0 1 -1 2", row(site.order(0), site.order(1), site.order(2), site.many(13)));
        Slewyard high = tenByTen();
        is(0, high.crane(44, 9, 3, 400, 6));
        is(1, high.crane(47, 9, 3, 400, 2));
        is("0 -1 -1 1", row(high.order(0), high.order(1), high.order(2), high.many(13)));
    }
}
